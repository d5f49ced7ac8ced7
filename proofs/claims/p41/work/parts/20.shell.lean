/-! the input, and the quarry's own shell -/
abbrev qIV : Type := List Int32 × List Int32 × List Int32 × List Int32 × Int32 × Int32 × Int32
/-- a word by its number: its constant lies at cs (16 + number) -/
def qWd (cs : qC) (w : Int32) : Option Nat := if w < 0 then none else some (cs (16 + w.toNatClampNeg))
def qWrow (cs : qC) (L : List Int32) : va_E := .inl (cs 2, 60, .inr (.inr (.inr (.inr (fun j => qWd cs (L.getD j (-1)))))))
def qLI (cs : qC) (M : qM) (a : Nat) (v : qIV) : Prop := M a = some (.inr (4, [.ref (a + 1), .ref (a + 2), .ref (a + 3), .ref (a + 4), .int v.2.2.2.2.1, .int v.2.2.2.2.2.1, .int v.2.2.2.2.2.2])) ∧ qRow cs M (a + 1) v.1 60 ∧ qRow cs M (a + 3) v.2.2.1 60 ∧ qRow cs M (a + 4) v.2.2.2.1 60 ∧ (M (a + 2) = some (qWrow cs v.2.1) ∧ v.2.1.length = 60 ∧ ∀ j : Nat, (v.2.1.getD j (-1)).toNatClampNeg < 8)
theorem qLI.same {cs : qC} {M M' : qM} {a : Nat} {v : qIV} (h : qLI cs M a v) (hs : ∀ q : Nat, a ≤ q → q < a + 5 → M' q = M q) : qLI cs M' a v :=
  ⟨(hs a (by omega) (by omega)).trans h.1, h.2.1.same (hs _ (by omega) (by omega)), h.2.2.1.same (hs _ (by omega) (by omega)), h.2.2.2.1.same (hs _ (by omega) (by omega)), (hs _ (by omega) (by omega)).trans h.2.2.2.2.1, h.2.2.2.2.2⟩
theorem qLI.fr {cs : qC} {M M' : qM} {a : Nat} {v : qIV} {F : Nat → Prop} (h : qLI cs M a v) (hs : qFr F M M') (hd : ∀ q : Nat, a ≤ q → q < a + 5 → ¬ F q) : qLI cs M' a v := h.same (fun q h1 h2 => hs q (hd q h1 h2))
theorem qLI.s0 {cs : qC} {M M' : qM} {a : Nat} {v : qIV} {x : List Int32} (h : qLI cs M a v) (hx : qRow cs M' (a + 1) x 60) (hs : qFr (qIn (a + 1) 1) M M') : qLI cs M' a (x, v.2.1, v.2.2.1, v.2.2.2.1, v.2.2.2.2.1, v.2.2.2.2.2.1, v.2.2.2.2.2.2) :=
  ⟨(hs a (by omega)).trans h.1, hx, h.2.2.1.same (hs _ (by omega)), h.2.2.2.1.same (hs _ (by omega)), (hs _ (by omega)).trans h.2.2.2.2.1, h.2.2.2.2.2⟩
theorem qLI.s2 {cs : qC} {M M' : qM} {a : Nat} {v : qIV} {x : List Int32} (h : qLI cs M a v) (hx : qRow cs M' (a + 3) x 60) (hs : qFr (qIn (a + 3) 1) M M') : qLI cs M' a (v.1, v.2.1, x, v.2.2.2.1, v.2.2.2.2.1, v.2.2.2.2.2.1, v.2.2.2.2.2.2) :=
  ⟨(hs a (by omega)).trans h.1, h.2.1.same (hs _ (by omega)), hx, h.2.2.2.1.same (hs _ (by omega)), (hs _ (by omega)).trans h.2.2.2.2.1, h.2.2.2.2.2⟩
theorem qLI.s3 {cs : qC} {M M' : qM} {a : Nat} {v : qIV} {x : List Int32} (h : qLI cs M a v) (hx : qRow cs M' (a + 4) x 60) (hs : qFr (qIn (a + 4) 1) M M') : qLI cs M' a (v.1, v.2.1, v.2.2.1, x, v.2.2.2.2.1, v.2.2.2.2.2.1, v.2.2.2.2.2.2) :=
  ⟨(hs a (by omega)).trans h.1, h.2.1.same (hs _ (by omega)), h.2.2.1.same (hs _ (by omega)), hx, (hs _ (by omega)).trans h.2.2.2.2.1, h.2.2.2.2.2⟩
theorem qLI.i4 {cs : qC} {M : qM} {a : Nat} {v : qIV} (x : Int32) (h : qLI cs M a v) : qLI cs (qUp M a (.inr (4, [.ref (a + 1), .ref (a + 2), .ref (a + 3), .ref (a + 4), .int x, .int v.2.2.2.2.2.1, .int v.2.2.2.2.2.2]))) a (v.1, v.2.1, v.2.2.1, v.2.2.2.1, x, v.2.2.2.2.2.1, v.2.2.2.2.2.2) :=
  ⟨qUp_at _ _ _, h.2.1.same (qUp_ne (by omega)), h.2.2.1.same (qUp_ne (by omega)), h.2.2.2.1.same (qUp_ne (by omega)), (qUp_ne (by omega)).trans h.2.2.2.2.1, h.2.2.2.2.2⟩
theorem qLI.i5 {cs : qC} {M : qM} {a : Nat} {v : qIV} (x : Int32) (h : qLI cs M a v) : qLI cs (qUp M a (.inr (4, [.ref (a + 1), .ref (a + 2), .ref (a + 3), .ref (a + 4), .int v.2.2.2.2.1, .int x, .int v.2.2.2.2.2.2]))) a (v.1, v.2.1, v.2.2.1, v.2.2.2.1, v.2.2.2.2.1, x, v.2.2.2.2.2.2) :=
  ⟨qUp_at _ _ _, h.2.1.same (qUp_ne (by omega)), h.2.2.1.same (qUp_ne (by omega)), h.2.2.2.1.same (qUp_ne (by omega)), (qUp_ne (by omega)).trans h.2.2.2.2.1, h.2.2.2.2.2⟩
theorem qLI.i6 {cs : qC} {M : qM} {a : Nat} {v : qIV} (x : Int32) (h : qLI cs M a v) : qLI cs (qUp M a (.inr (4, [.ref (a + 1), .ref (a + 2), .ref (a + 3), .ref (a + 4), .int v.2.2.2.2.1, .int v.2.2.2.2.2.1, .int x]))) a (v.1, v.2.1, v.2.2.1, v.2.2.2.1, v.2.2.2.2.1, v.2.2.2.2.2.1, x) :=
  ⟨qUp_at _ _ _, h.2.1.same (qUp_ne (by omega)), h.2.2.1.same (qUp_ne (by omega)), h.2.2.2.1.same (qUp_ne (by omega)), (qUp_ne (by omega)).trans h.2.2.2.2.1, h.2.2.2.2.2⟩
def qLX (cs : qC) (M : qM) (a : Nat) (v : (Int32 × Int32)) : Prop := M a = some (.inr (10, [.ref (a + 1), .ref (a + 14), .ref (a + 27), .ref (a + 40), .ref (a + 159), .ref (a + 164), .ref (a + 166), .int v.1, .int v.2]))
theorem qLX.same {cs : qC} {M M' : qM} {a : Nat} {v : (Int32 × Int32)} (h : qLX cs M a v) (hs : ∀ q : Nat, a ≤ q → q < a + 1 → M' q = M q) : qLX cs M' a v := (hs a (by omega) (by omega)).trans h
theorem qLX.fr {cs : qC} {M M' : qM} {a : Nat} {v : (Int32 × Int32)} {F : Nat → Prop} (h : qLX cs M a v) (hs : qFr F M M') (hd : ∀ q : Nat, a ≤ q → q < a + 1 → ¬ F q) : qLX cs M' a v := h.same (fun q h1 h2 => hs q (hd q h1 h2))
theorem qLX.i7 {cs : qC} {M : qM} {a : Nat} {v : (Int32 × Int32)} (x : Int32) (h : qLX cs M a v) : qLX cs (qUp M a (.inr (10, [.ref (a + 1), .ref (a + 14), .ref (a + 27), .ref (a + 40), .ref (a + 159), .ref (a + 164), .ref (a + 166), .int x, .int v.2]))) a (x, v.2) := qUp_at _ _ _
theorem qLX.i8 {cs : qC} {M : qM} {a : Nat} {v : (Int32 × Int32)} (x : Int32) (h : qLX cs M a v) : qLX cs (qUp M a (.inr (10, [.ref (a + 1), .ref (a + 14), .ref (a + 27), .ref (a + 40), .ref (a + 159), .ref (a + 164), .ref (a + 166), .int v.1, .int x]))) a (v.1, x) := qUp_at _ _ _
theorem wm_ini : Cond.initialized "java/lang/Math" ∈ qG := (qT1_in 14 (by decide +kernel) rfl)
theorem wm_min : Cond.static Lib.Math.min.name ∈ qG ∧ Cond.code Lib.Math.min.name Lib.Math.min.code 2 (some .int) ∈ qG := ⟨(qT2_in 97 rfl rfl), (qT2_in 98 rfl rfl)⟩
theorem wm_max : Cond.static Lib.Math.max.name ∈ qG ∧ Cond.code Lib.Math.max.name Lib.Math.max.code 2 (some .int) ∈ qG := ⟨(qT3_in 83 rfl rfl), (qT3_in 84 rfl rfl)⟩
