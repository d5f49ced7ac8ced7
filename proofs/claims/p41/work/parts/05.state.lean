/-! WHAT A STATE IS: rows, and the objects that hold them; each object lies ahead of its own rows and parts -/
abbrev qIn (a k q : Nat) : Prop := a ≤ q ∧ q < a + k
/-- outside F nothing changed -/
abbrev qFr (F : Nat → Prop) (M M' : qM) : Prop := ∀ q : Nat, ¬ F q → M' q = M q
theorem qFr.rf {F : Nat → Prop} {M : qM} : qFr F M M := fun _ _ => rfl
theorem qFr.tr {F G : Nat → Prop} {M M1 M2 : qM} (h : qFr F M M1) (h2 : qFr G M1 M2) (hs : ∀ q, G q → F q) : qFr F M M2 := fun q hq => (h2 q (fun z => hq (hs q z))).trans (h q hq)
theorem qFr.up {M : qM} {a k : Nat} {e : va_E} (hk : 0 < k) : qFr (qIn a k) M (qUp M a e) := fun q hq => qUp_ne (fun z => hq (by omega))
def qRow (cs : qC) (M : qM) (r : Nat) (L : List Int32) (k : Nat) : Prop := M r = some (qrow (cs 0) L) ∧ L.length = k ∧ k < 2 ^ 31
theorem qRow.same {cs : qC} {M M' : qM} {r k : Nat} {L : List Int32} (h : qRow cs M r L k) (e : M' r = M r) : qRow cs M' r L k := ⟨e.trans h.1, h.2⟩
abbrev qMod (N : Nat) (v : Option Value) (P : qM → Prop) : Option Value → qM → Nat → Prop := fun r M' N' => r = v ∧ P M' ∧ N' = N
section QG
variable {p : Program} {l : Launch} {e : Env} {R : Room} {s : State} {m : MethodId} {args : Array Value} {below : List Frame} {meth : Method} {c : Code} {H : Heap} {locs : List Loc} {cells slots : Nat} {Q : State → Prop}
variable {pc : Nat} {ls : Array Slot} {rest st0 : List Value} {D : va_G} {M0 M : qM} {N : Nat}
theorem q_goP {v : Value} {P : qM → Prop} {av : Array Value} (hr : va_Run p l e R s m args below meth c H locs cells slots 0 0 (F0 m pc ls st0) rest (qQ D M N (qMod N (some v) P) av) (qA M N)) (hI : qI D M0 s.heap M N H locs)
    (kk : ∀ (M' : qM) (H1 : Heap) (locs1 : List Loc), P M' → qI D M0 s.heap M' N H1 locs1 → W p l e R s m args below meth c H1 locs1 cells slots Q (F0 m (pc + 3) ls (v :: rest))) : W p l e R s m args below meth c H locs cells slots Q (F0 m pc ls st0) :=
  q_go hr hI (fun r M' N' H1 locs1 hp hI1 => by
    obtain ⟨rfl, hp, rfl⟩ := hp
    exact kk M' H1 locs1 hp hI1)
theorem q_goN {P : qM → Prop} {av : Array Value} (hr : va_Run p l e R s m args below meth c H locs cells slots 0 0 (F0 m pc ls st0) rest (qQ D M N (qMod N none P) av) (qA M N)) (hI : qI D M0 s.heap M N H locs)
    (kk : ∀ (M' : qM) (H1 : Heap) (locs1 : List Loc), P M' → qI D M0 s.heap M' N H1 locs1 → W p l e R s m args below meth c H1 locs1 cells slots Q (F0 m (pc + 3) ls rest)) : W p l e R s m args below meth c H locs cells slots Q (F0 m pc ls st0) :=
  q_go hr hI (fun r M' N' H1 locs1 hp hI1 => by
    obtain ⟨rfl, hp, rfl⟩ := hp
    exact kk M' H1 locs1 hp hI1)
end QG
def qbi (b : Bool) : Int32 := bif b then 1 else 0
abbrev qBV : Type := List Int32 × List Int32 × Int32
def qLB (cs : qC) (M : qM) (a : Nat) (v : qBV) : Prop := M a = some (.inr (2, [.ref (a + 1), .ref (a + 2), .int v.2.2])) ∧ qRow cs M (a + 1) v.1 16 ∧ qRow cs M (a + 2) v.2.1 16
theorem qLB.same {cs : qC} {M M' : qM} {a : Nat} {v : qBV} (h : qLB cs M a v) (hs : ∀ q : Nat, a ≤ q → q < a + 3 → M' q = M q) : qLB cs M' a v := ⟨(hs a (by omega) (by omega)).trans h.1, h.2.1.same (hs (a + 1) (by omega) (by omega)), h.2.2.same (hs (a + 2) (by omega) (by omega))⟩
theorem qLB.fr {cs : qC} {M M' : qM} {a : Nat} {v : qBV} {F : Nat → Prop} (h : qLB cs M a v) (hs : qFr F M M') (hd : ∀ q : Nat, a ≤ q → q < a + 3 → ¬ F q) : qLB cs M' a v := h.same (fun q h1 h2 => hs q (hd q h1 h2))
theorem qLB.s0 {cs : qC} {M M' : qM} {a : Nat} {v : qBV} {x : List Int32} (h : qLB cs M a v) (hx : qRow cs M' (a + 1) x 16) (hs : qFr (qIn (a + 1) 1) M M') : qLB cs M' a (x, v.2.1, v.2.2) := ⟨(hs a (by omega)).trans h.1, hx, h.2.2.same (hs _ (by omega))⟩
theorem qLB.s1 {cs : qC} {M M' : qM} {a : Nat} {v : qBV} {x : List Int32} (h : qLB cs M a v) (hx : qRow cs M' (a + 2) x 16) (hs : qFr (qIn (a + 2) 1) M M') : qLB cs M' a (v.1, x, v.2.2) := ⟨(hs a (by omega)).trans h.1, h.2.1.same (hs _ (by omega)), hx⟩
theorem qLB.i2 {cs : qC} {M : qM} {a : Nat} {v : qBV} (x : Int32) (h : qLB cs M a v) : qLB cs (qUp M a (.inr (2, [.ref (a + 1), .ref (a + 2), .int x]))) a (v.1, v.2.1, x) := ⟨qUp_at _ _ _, h.2.1.same (qUp_ne (by omega)), h.2.2.same (qUp_ne (by omega))⟩
abbrev qTV : Type := List Int32 × List Int32 × List Int32 × Int32
def qLT (cs : qC) (M : qM) (a : Nat) (v : qTV) : Prop := M a = some (.inr (9, [.ref (a + 1), .ref (a + 2), .ref (a + 3), .int v.2.2.2])) ∧ qRow cs M (a + 1) v.1 16 ∧ qRow cs M (a + 2) v.2.1 16 ∧ qRow cs M (a + 3) v.2.2.1 16
theorem qLT.same {cs : qC} {M M' : qM} {a : Nat} {v : qTV} (h : qLT cs M a v) (hs : ∀ q : Nat, a ≤ q → q < a + 4 → M' q = M q) : qLT cs M' a v := ⟨(hs a (by omega) (by omega)).trans h.1, h.2.1.same (hs (a + 1) (by omega) (by omega)), h.2.2.1.same (hs (a + 2) (by omega) (by omega)), h.2.2.2.same (hs (a + 3) (by omega) (by omega))⟩
theorem qLT.fr {cs : qC} {M M' : qM} {a : Nat} {v : qTV} {F : Nat → Prop} (h : qLT cs M a v) (hs : qFr F M M') (hd : ∀ q : Nat, a ≤ q → q < a + 4 → ¬ F q) : qLT cs M' a v := h.same (fun q h1 h2 => hs q (hd q h1 h2))
theorem qLT.s0 {cs : qC} {M M' : qM} {a : Nat} {v : qTV} {x : List Int32} (h : qLT cs M a v) (hx : qRow cs M' (a + 1) x 16) (hs : qFr (qIn (a + 1) 1) M M') : qLT cs M' a (x, v.2.1, v.2.2.1, v.2.2.2) := ⟨(hs a (by omega)).trans h.1, hx, h.2.2.1.same (hs _ (by omega)), h.2.2.2.same (hs _ (by omega))⟩
theorem qLT.s1 {cs : qC} {M M' : qM} {a : Nat} {v : qTV} {x : List Int32} (h : qLT cs M a v) (hx : qRow cs M' (a + 2) x 16) (hs : qFr (qIn (a + 2) 1) M M') : qLT cs M' a (v.1, x, v.2.2.1, v.2.2.2) := ⟨(hs a (by omega)).trans h.1, h.2.1.same (hs _ (by omega)), hx, h.2.2.2.same (hs _ (by omega))⟩
theorem qLT.s2 {cs : qC} {M M' : qM} {a : Nat} {v : qTV} {x : List Int32} (h : qLT cs M a v) (hx : qRow cs M' (a + 3) x 16) (hs : qFr (qIn (a + 3) 1) M M') : qLT cs M' a (v.1, v.2.1, x, v.2.2.2) := ⟨(hs a (by omega)).trans h.1, h.2.1.same (hs _ (by omega)), h.2.2.1.same (hs _ (by omega)), hx⟩
theorem qLT.i3 {cs : qC} {M : qM} {a : Nat} {v : qTV} (x : Int32) (h : qLT cs M a v) : qLT cs (qUp M a (.inr (9, [.ref (a + 1), .ref (a + 2), .ref (a + 3), .int x]))) a (v.1, v.2.1, v.2.2.1, x) := ⟨qUp_at _ _ _, h.2.1.same (qUp_ne (by omega)), h.2.2.1.same (qUp_ne (by omega)), h.2.2.2.same (qUp_ne (by omega))⟩
abbrev qSV : Type := List Int32 × List Int32 × List Int32 × List Int32 × Int32
def qLS (cs : qC) (M : qM) (a : Nat) (v : qSV) : Prop := M a = some (.inr (8, [.ref (a + 1), .ref (a + 2), .ref (a + 3), .ref (a + 4), .int v.2.2.2.2])) ∧ qRow cs M (a + 1) v.1 3 ∧ qRow cs M (a + 2) v.2.1 3 ∧ qRow cs M (a + 3) v.2.2.1 3 ∧ qRow cs M (a + 4) v.2.2.2.1 3
theorem qLS.same {cs : qC} {M M' : qM} {a : Nat} {v : qSV} (h : qLS cs M a v) (hs : ∀ q : Nat, a ≤ q → q < a + 5 → M' q = M q) : qLS cs M' a v := ⟨(hs a (by omega) (by omega)).trans h.1, h.2.1.same (hs (a + 1) (by omega) (by omega)), h.2.2.1.same (hs (a + 2) (by omega) (by omega)), h.2.2.2.1.same (hs (a + 3) (by omega) (by omega)), h.2.2.2.2.same (hs (a + 4) (by omega) (by omega))⟩
theorem qLS.fr {cs : qC} {M M' : qM} {a : Nat} {v : qSV} {F : Nat → Prop} (h : qLS cs M a v) (hs : qFr F M M') (hd : ∀ q : Nat, a ≤ q → q < a + 5 → ¬ F q) : qLS cs M' a v := h.same (fun q h1 h2 => hs q (hd q h1 h2))
theorem qLS.s0 {cs : qC} {M M' : qM} {a : Nat} {v : qSV} {x : List Int32} (h : qLS cs M a v) (hx : qRow cs M' (a + 1) x 3) (hs : qFr (qIn (a + 1) 1) M M') : qLS cs M' a (x, v.2.1, v.2.2.1, v.2.2.2.1, v.2.2.2.2) := ⟨(hs a (by omega)).trans h.1, hx, h.2.2.1.same (hs _ (by omega)), h.2.2.2.1.same (hs _ (by omega)), h.2.2.2.2.same (hs _ (by omega))⟩
theorem qLS.s1 {cs : qC} {M M' : qM} {a : Nat} {v : qSV} {x : List Int32} (h : qLS cs M a v) (hx : qRow cs M' (a + 2) x 3) (hs : qFr (qIn (a + 2) 1) M M') : qLS cs M' a (v.1, x, v.2.2.1, v.2.2.2.1, v.2.2.2.2) := ⟨(hs a (by omega)).trans h.1, h.2.1.same (hs _ (by omega)), hx, h.2.2.2.1.same (hs _ (by omega)), h.2.2.2.2.same (hs _ (by omega))⟩
theorem qLS.s2 {cs : qC} {M M' : qM} {a : Nat} {v : qSV} {x : List Int32} (h : qLS cs M a v) (hx : qRow cs M' (a + 3) x 3) (hs : qFr (qIn (a + 3) 1) M M') : qLS cs M' a (v.1, v.2.1, x, v.2.2.2.1, v.2.2.2.2) := ⟨(hs a (by omega)).trans h.1, h.2.1.same (hs _ (by omega)), h.2.2.1.same (hs _ (by omega)), hx, h.2.2.2.2.same (hs _ (by omega))⟩
theorem qLS.s3 {cs : qC} {M M' : qM} {a : Nat} {v : qSV} {x : List Int32} (h : qLS cs M a v) (hx : qRow cs M' (a + 4) x 3) (hs : qFr (qIn (a + 4) 1) M M') : qLS cs M' a (v.1, v.2.1, v.2.2.1, x, v.2.2.2.2) := ⟨(hs a (by omega)).trans h.1, h.2.1.same (hs _ (by omega)), h.2.2.1.same (hs _ (by omega)), h.2.2.2.1.same (hs _ (by omega)), hx⟩
theorem qLS.i4 {cs : qC} {M : qM} {a : Nat} {v : qSV} (x : Int32) (h : qLS cs M a v) : qLS cs (qUp M a (.inr (8, [.ref (a + 1), .ref (a + 2), .ref (a + 3), .ref (a + 4), .int x]))) a (v.1, v.2.1, v.2.2.1, v.2.2.2.1, x) := ⟨qUp_at _ _ _, h.2.1.same (qUp_ne (by omega)), h.2.2.1.same (qUp_ne (by omega)), h.2.2.2.1.same (qUp_ne (by omega)), h.2.2.2.2.same (qUp_ne (by omega))⟩
abbrev qRV : Type := Int32 × Int32 × Int32 × Int32
def qLR (cs : qC) (M : qM) (a : Nat) (v : qRV) : Prop := M a = some (.inr (7, [.int v.1, .int v.2.1, .int v.2.2.1, .int v.2.2.2]))
theorem qLR.same {cs : qC} {M M' : qM} {a : Nat} {v : qRV} (h : qLR cs M a v) (hs : ∀ q : Nat, a ≤ q → q < a + 1 → M' q = M q) : qLR cs M' a v := (hs a (by omega) (by omega)).trans h
theorem qLR.fr {cs : qC} {M M' : qM} {a : Nat} {v : qRV} {F : Nat → Prop} (h : qLR cs M a v) (hs : qFr F M M') (hd : ∀ q : Nat, a ≤ q → q < a + 1 → ¬ F q) : qLR cs M' a v := h.same (fun q h1 h2 => hs q (hd q h1 h2))
theorem qLR.i0 {cs : qC} {M : qM} {a : Nat} {v : qRV} (x : Int32) (h : qLR cs M a v) : qLR cs (qUp M a (.inr (7, [.int x, .int v.2.1, .int v.2.2.1, .int v.2.2.2]))) a (x, v.2.1, v.2.2.1, v.2.2.2) := qUp_at _ _ _
theorem qLR.i1 {cs : qC} {M : qM} {a : Nat} {v : qRV} (x : Int32) (h : qLR cs M a v) : qLR cs (qUp M a (.inr (7, [.int v.1, .int x, .int v.2.2.1, .int v.2.2.2]))) a (v.1, x, v.2.2.1, v.2.2.2) := qUp_at _ _ _
theorem qLR.i2 {cs : qC} {M : qM} {a : Nat} {v : qRV} (x : Int32) (h : qLR cs M a v) : qLR cs (qUp M a (.inr (7, [.int v.1, .int v.2.1, .int x, .int v.2.2.2]))) a (v.1, v.2.1, x, v.2.2.2) := qUp_at _ _ _
theorem qLR.i3 {cs : qC} {M : qM} {a : Nat} {v : qRV} (x : Int32) (h : qLR cs M a v) : qLR cs (qUp M a (.inr (7, [.int v.1, .int v.2.1, .int v.2.2.1, .int x]))) a (v.1, v.2.1, v.2.2.1, x) := qUp_at _ _ _
abbrev qNV : Type := List Int32 × Int32
def qLN (cs : qC) (M : qM) (a : Nat) (v : qNV) : Prop := M a = some (.inr (5, [.ref (a + 1), .int v.2])) ∧ qRow cs M (a + 1) v.1 54
theorem qLN.same {cs : qC} {M M' : qM} {a : Nat} {v : qNV} (h : qLN cs M a v) (hs : ∀ q : Nat, a ≤ q → q < a + 2 → M' q = M q) : qLN cs M' a v := ⟨(hs a (by omega) (by omega)).trans h.1, h.2.same (hs (a + 1) (by omega) (by omega))⟩
theorem qLN.fr {cs : qC} {M M' : qM} {a : Nat} {v : qNV} {F : Nat → Prop} (h : qLN cs M a v) (hs : qFr F M M') (hd : ∀ q : Nat, a ≤ q → q < a + 2 → ¬ F q) : qLN cs M' a v := h.same (fun q h1 h2 => hs q (hd q h1 h2))
theorem qLN.s0 {cs : qC} {M M' : qM} {a : Nat} {v : qNV} {x : List Int32} (h : qLN cs M a v) (hx : qRow cs M' (a + 1) x 54) (hs : qFr (qIn (a + 1) 1) M M') : qLN cs M' a (x, v.2) := ⟨(hs a (by omega)).trans h.1, hx⟩
theorem qLN.i1 {cs : qC} {M : qM} {a : Nat} {v : qNV} (x : Int32) (h : qLN cs M a v) : qLN cs (qUp M a (.inr (5, [.ref (a + 1), .int x]))) a (v.1, x) := ⟨qUp_at _ _ _, h.2.same (qUp_ne (by omega))⟩
abbrev qQV : Type := qBV × qTV × qSV × Int32 × Int32 × Int32
def qLQ (cs : qC) (M : qM) (a : Nat) (v : qQV) : Prop := M a = some (.inr (6, [.ref (a + 1), .ref (a + 4), .ref (a + 8), .int v.2.2.2.1, .int v.2.2.2.2.1, .int v.2.2.2.2.2])) ∧ qLB cs M (a + 1) v.1 ∧ qLT cs M (a + 4) v.2.1 ∧ qLS cs M (a + 8) v.2.2.1
theorem qLQ.same {cs : qC} {M M' : qM} {a : Nat} {v : qQV} (h : qLQ cs M a v) (hs : ∀ q : Nat, a ≤ q → q < a + 13 → M' q = M q) : qLQ cs M' a v := ⟨(hs a (by omega) (by omega)).trans h.1, h.2.1.same (fun q h1 h2 => hs q (by omega) (by omega)), h.2.2.1.same (fun q h1 h2 => hs q (by omega) (by omega)), h.2.2.2.same (fun q h1 h2 => hs q (by omega) (by omega))⟩
theorem qLQ.fr {cs : qC} {M M' : qM} {a : Nat} {v : qQV} {F : Nat → Prop} (h : qLQ cs M a v) (hs : qFr F M M') (hd : ∀ q : Nat, a ≤ q → q < a + 13 → ¬ F q) : qLQ cs M' a v := h.same (fun q h1 h2 => hs q (hd q h1 h2))
theorem qLQ.s0 {cs : qC} {M M' : qM} {a : Nat} {v : qQV} {x : qBV} (h : qLQ cs M a v) (hx : qLB cs M' (a + 1) x) (hs : qFr (qIn (a + 1) 3) M M') : qLQ cs M' a (x, v.2.1, v.2.2.1, v.2.2.2.1, v.2.2.2.2.1, v.2.2.2.2.2) := ⟨(hs a (by omega)).trans h.1, hx, h.2.2.1.same (fun q h1 h2 => hs q (by omega)), h.2.2.2.same (fun q h1 h2 => hs q (by omega))⟩
theorem qLQ.s1 {cs : qC} {M M' : qM} {a : Nat} {v : qQV} {x : qTV} (h : qLQ cs M a v) (hx : qLT cs M' (a + 4) x) (hs : qFr (qIn (a + 4) 4) M M') : qLQ cs M' a (v.1, x, v.2.2.1, v.2.2.2.1, v.2.2.2.2.1, v.2.2.2.2.2) := ⟨(hs a (by omega)).trans h.1, h.2.1.same (fun q h1 h2 => hs q (by omega)), hx, h.2.2.2.same (fun q h1 h2 => hs q (by omega))⟩
theorem qLQ.s2 {cs : qC} {M M' : qM} {a : Nat} {v : qQV} {x : qSV} (h : qLQ cs M a v) (hx : qLS cs M' (a + 8) x) (hs : qFr (qIn (a + 8) 5) M M') : qLQ cs M' a (v.1, v.2.1, x, v.2.2.2.1, v.2.2.2.2.1, v.2.2.2.2.2) := ⟨(hs a (by omega)).trans h.1, h.2.1.same (fun q h1 h2 => hs q (by omega)), h.2.2.1.same (fun q h1 h2 => hs q (by omega)), hx⟩
theorem qLQ.i3 {cs : qC} {M : qM} {a : Nat} {v : qQV} (x : Int32) (h : qLQ cs M a v) : qLQ cs (qUp M a (.inr (6, [.ref (a + 1), .ref (a + 4), .ref (a + 8), .int x, .int v.2.2.2.2.1, .int v.2.2.2.2.2]))) a (v.1, v.2.1, v.2.2.1, x, v.2.2.2.2.1, v.2.2.2.2.2) := ⟨qUp_at _ _ _, h.2.1.same (fun q h1 h2 => qUp_ne (by omega)), h.2.2.1.same (fun q h1 h2 => qUp_ne (by omega)), h.2.2.2.same (fun q h1 h2 => qUp_ne (by omega))⟩
theorem qLQ.i4 {cs : qC} {M : qM} {a : Nat} {v : qQV} (x : Int32) (h : qLQ cs M a v) : qLQ cs (qUp M a (.inr (6, [.ref (a + 1), .ref (a + 4), .ref (a + 8), .int v.2.2.2.1, .int x, .int v.2.2.2.2.2]))) a (v.1, v.2.1, v.2.2.1, v.2.2.2.1, x, v.2.2.2.2.2) := ⟨qUp_at _ _ _, h.2.1.same (fun q h1 h2 => qUp_ne (by omega)), h.2.2.1.same (fun q h1 h2 => qUp_ne (by omega)), h.2.2.2.same (fun q h1 h2 => qUp_ne (by omega))⟩
theorem qLQ.i5 {cs : qC} {M : qM} {a : Nat} {v : qQV} (x : Int32) (h : qLQ cs M a v) : qLQ cs (qUp M a (.inr (6, [.ref (a + 1), .ref (a + 4), .ref (a + 8), .int v.2.2.2.1, .int v.2.2.2.2.1, .int x]))) a (v.1, v.2.1, v.2.2.1, v.2.2.2.1, v.2.2.2.2.1, x) := ⟨qUp_at _ _ _, h.2.1.same (fun q h1 h2 => qUp_ne (by omega)), h.2.2.1.same (fun q h1 h2 => qUp_ne (by omega)), h.2.2.2.same (fun q h1 h2 => qUp_ne (by omega))⟩
