/-! THE MODEL HEAP: addresses and what lies there; the rows over it. -/
abbrev qM : Type := Nat → Option va_E
abbrev qC : Type := Nat → ClassId
def qT (cs : qC) : List (ClassId × FieldType) := [(cs 0, .int), (cs 1, .object RX5), (cs 2, .object RX9), (cs 3, .long), (cs 4, .byte)]
/-- the links to members of nest mates that the class and its parts use -/
def qNL : List Cond := [
  .methodLinkNest "QuarryRopes$Quarry" 11 ({ cls := "QuarryRopes$Blocks", name := "<init>", desc := "()V" } : MethodName) "QuarryRopes",
  .fieldLinkNest "QuarryRopes$Quarry" 111 "QuarryRopes$Blocks" "weights" "[I" "QuarryRopes",
  .fieldLinkNest "QuarryRopes$Quarry" 88 "QuarryRopes$Blocks" "holders" "[I" "QuarryRopes",
  .fieldLinkNest "QuarryRopes$Quarry" 62 "QuarryRopes$Blocks" "count" "I" "QuarryRopes",
  .fieldLinkNest "QuarryRopes" 62 "QuarryRopes$Blocks" "count" "I" "QuarryRopes",
  .methodLinkNest "QuarryRopes$Quarry" 20 ({ cls := "QuarryRopes$Trees", name := "<init>", desc := "()V" } : MethodName) "QuarryRopes",
  .fieldLinkNest "QuarryRopes" 224 "QuarryRopes$Trees" "turns" "I" "QuarryRopes",
  .methodLinkNest "QuarryRopes$Quarry" 27 ({ cls := "QuarryRopes$Sledges", name := "<init>", desc := "()V" } : MethodName) "QuarryRopes",
  .fieldLinkNest "QuarryRopes$Quarry" 114 "QuarryRopes$Sledges" "count" "I" "QuarryRopes",
  .methodLinkNest "QuarryRopes$Blocks" 22 ({ cls := "QuarryRopes", name := "fill", desc := "([II)V" } : MethodName) "QuarryRopes",
  .methodLinkNest "QuarryRopes$Trees" 25 ({ cls := "QuarryRopes", name := "fill", desc := "([II)V" } : MethodName) "QuarryRopes",
  .methodLinkNest "QuarryRopes$Sledges" 28 ({ cls := "QuarryRopes", name := "fill", desc := "([II)V" } : MethodName) "QuarryRopes",
  .fieldLinkNest "QuarryRopes" 58 "QuarryRopes$Quarry" "blocks" "LQuarryRopes$Blocks;" "QuarryRopes",
  .fieldLinkNest "QuarryRopes" 177 "QuarryRopes$Quarry" "trees" "LQuarryRopes$Trees;" "QuarryRopes",
  .fieldLinkNest "QuarryRopes" 168 "QuarryRopes$Quarry" "sledges" "LQuarryRopes$Sledges;" "QuarryRopes",
  .fieldLinkNest "QuarryRopes" 286 "QuarryRopes$Quarry" "exposings" "I" "QuarryRopes",
  .fieldLinkNest "QuarryRopes" 289 "QuarryRopes$Quarry" "hangings" "I" "QuarryRopes",
  .fieldLinkNest "QuarryRopes" 292 "QuarryRopes$Quarry" "cuttings" "I" "QuarryRopes",
  .fieldLinkNest "QuarryRopes" 305 "QuarryRopes$History" "count" "I" "QuarryRopes",
  .methodLinkNest "QuarryRopes" 31 ({ cls := "QuarryRopes$Input", name := "<init>", desc := "()V" } : MethodName) "QuarryRopes",
  .fieldLinkNest "QuarryRopes" 314 "QuarryRopes$Input" "firsts" "[I" "QuarryRopes",
  .fieldLinkNest "QuarryRopes" 322 "QuarryRopes$Input" "seconds" "[I" "QuarryRopes",
  .fieldLinkNest "QuarryRopes" 304 "QuarryRopes$Input" "length" "I" "QuarryRopes",
  .fieldLinkNest "QuarryRopes" 120 "QuarryRopes$Input" "commands" "I" "QuarryRopes",
  .fieldLinkNest "QuarryRopes" 117 "QuarryRopes$Input" "place" "I" "QuarryRopes",
  .methodLinkNest "QuarryRopes" 38 ({ cls := "QuarryRopes$Line", name := "<init>", desc := "()V" } : MethodName) "QuarryRopes",
  .fieldLinkNest "QuarryRopes" 255 "QuarryRopes$Line" "length" "I" "QuarryRopes",
  .methodLinkNest "QuarryRopes" 45 ({ cls := "QuarryRopes$Reasons", name := "<init>", desc := "()V" } : MethodName) "QuarryRopes",
  .methodLinkNest "QuarryRopes$Input" 31 ({ cls := "QuarryRopes", name := "put", desc := "([III)V" } : MethodName) "QuarryRopes",
  .methodLinkNest "QuarryRopes$Blocks" 26 ({ cls := "QuarryRopes", name := "copyRow", desc := "([I[I)V" } : MethodName) "QuarryRopes",
  .methodLinkNest "QuarryRopes$Trees" 29 ({ cls := "QuarryRopes", name := "copyRow", desc := "([I[I)V" } : MethodName) "QuarryRopes",
  .methodLinkNest "QuarryRopes$Sledges" 32 ({ cls := "QuarryRopes", name := "copyRow", desc := "([I[I)V" } : MethodName) "QuarryRopes",
  .methodLinkNest "QuarryRopes$Blocks" 30 ({ cls := "QuarryRopes", name := "put", desc := "([III)V" } : MethodName) "QuarryRopes",
  .methodLinkNest "QuarryRopes$Blocks" 34 ({ cls := "QuarryRopes", name := "at", desc := "([II)I" } : MethodName) "QuarryRopes",
  .methodLinkNest "QuarryRopes$Blocks" 41 ({ cls := "QuarryRopes", name := "lastAlong", desc := "([II)I" } : MethodName) "QuarryRopes",
  .methodLinkNest "QuarryRopes$Trees" 33 ({ cls := "QuarryRopes", name := "at", desc := "([II)I" } : MethodName) "QuarryRopes",
  .methodLinkNest "QuarryRopes$Trees" 78 ({ cls := "QuarryRopes", name := "put", desc := "([III)V" } : MethodName) "QuarryRopes",
  .methodLinkNest "QuarryRopes$Trees" 37 ({ cls := "QuarryRopes", name := "lastAlong", desc := "([II)I" } : MethodName) "QuarryRopes",
  .methodLinkNest "QuarryRopes$Quarry" 92 ({ cls := "QuarryRopes", name := "put", desc := "([III)V" } : MethodName) "QuarryRopes",
  .methodLinkNest "QuarryRopes$Blocks" 38 ({ cls := "QuarryRopes", name := "stepsAlong", desc := "([II)I" } : MethodName) "QuarryRopes",
  .methodLinkNest "QuarryRopes$Sledges" 36 ({ cls := "QuarryRopes", name := "put", desc := "([III)V" } : MethodName) "QuarryRopes",
  .methodLinkNest "QuarryRopes$Sledges" 40 ({ cls := "QuarryRopes", name := "at", desc := "([II)I" } : MethodName) "QuarryRopes",
  .fieldLinkNest "QuarryRopes$Input" 64 "QuarryRopes" "WORDS" "[LQuarryRopes$Word;" "QuarryRopes",
  .methodLinkNest "QuarryRopes$Input" 96 ({ cls := "QuarryRopes", name := "at", desc := "([II)I" } : MethodName) "QuarryRopes",
  .methodLinkNest "QuarryRopes$Blocks" 51 ({ cls := "QuarryRopes", name := "isAlong", desc := "([III)Z" } : MethodName) "QuarryRopes",
  .methodLinkNest "QuarryRopes$Trees" 51 ({ cls := "QuarryRopes", name := "stepsAlong", desc := "([II)I" } : MethodName) "QuarryRopes",
  .methodLinkNest "QuarryRopes$Trees" 54 ({ cls := "QuarryRopes", name := "isAlong", desc := "([III)Z" } : MethodName) "QuarryRopes",
  .methodLinkNest "QuarryRopes$Line" 19 ({ cls := "QuarryRopes", name := "put", desc := "([III)V" } : MethodName) "QuarryRopes",
  .methodLinkNest "QuarryRopes$Line" 27 ({ cls := "QuarryRopes", name := "at", desc := "([II)I" } : MethodName) "QuarryRopes",
  .fieldLinkNest "QuarryRopes$Input" 67 "QuarryRopes$Word" "text" "Ljava/lang/String;" "QuarryRopes",
  .fieldLinkNest "QuarryRopes$Input" 53 "QuarryRopes$Word" "numbers" "I" "QuarryRopes",
  .arrayOver (.object RX5), .arrayOver (.object RX9)]
def qIsNest : Cond → Bool
  | .fieldLinkNest .. => true
  | .methodLinkNest .. => true
  | .arrayOver (.object _) => true
  | _ => false
theorem qNL_nest : ∀ w ∈ qNL, qIsNest w = true := by decide +kernel
def qP (D : va_G) (M : qM) (H : Heap) : Prop := ∀ (a : Nat) (e : va_E), M a = some e → va_at D vwCl (a, e) H
def qK (D : va_G) (cs : qC) (U : State) : Prop := va_K D vwCl (qT cs) U ∧ ∀ w ∈ qNL, va_Nw w U
def qA (M0 : qM) (N0 : Nat) : Nat → Prop := fun q => M0 q ≠ none ∨ N0 ≤ q
/-- inside a walk: the model M stands in the heap H of N cells, out of the start M0 in H0 -/
def qI (D : va_G) (M0 : qM) (H0 : Heap) (M : qM) (N : Nat) (H : Heap) (locs : List Loc) : Prop :=
  qP D M H ∧ H.size = N ∧ (∀ a e, M a = some e → qA M0 H0.size a) ∧ va_S (qA M0 H0.size) H0 H locs
def qUp (M : qM) (a : Nat) (e : va_E) : qM := fun q => if q = a then some e else M q
theorem qUp_at (M : qM) (a : Nat) (e : va_E) : qUp M a e a = some e := by simp [qUp]
theorem qUp_ne {M : qM} {a q : Nat} {e : va_E} (h : q ≠ a) : qUp M a e q = M q := by simp [qUp, h]
def qPc (D : va_G) (cs : qC) (M : qM) (N : Nat) (av : List Value) : Array Value → State → Prop := fun v U => v = av.toArray ∧ qP D M U.heap ∧ qK D cs U ∧ U.heap.size = N
def qQ (D : va_G) (M : qM) (N : Nat) (post : Option Value → qM → Nat → Prop) : Array Value → State → Outcome → State → Prop := fun _ st oc t =>
  ∃ (r : Option Value) (M' : qM) (N' : Nat), oc = .returned r ∧ post r M' N' ∧ qP D M' t.heap ∧ t.heap.size = N' ∧ (∀ a e, M' a = some e → qA M N a) ∧ N ≤ N' ∧ ∀ q : Nat, q < N → ¬ qA M N q → t.heap[q]? = st.heap[q]?
abbrev qMet (l : Launch) (D : va_G) (cs : qC) (y : MethodName) (ws : List Cond) (rm : Room) (M : qM) (N : Nat) (av : List Value) (post : Option Value → qM → Nat → Prop) (mc ms : Nat) : Prop :=
  Met l y ws rm (qPc D cs M N av) (qQ D M N post) mc ms (qA M N)
/-- an answer, and nothing changed -/
abbrev qRet (M : qM) (N : Nat) (v : Value) : Option Value → qM → Nat → Prop := fun r M' N' => r = some v ∧ M' = M ∧ N' = N
theorem qNw_warm {w : Cond} (h : qIsNest w = true) {s U : State} (hW : s.WarmedH U.vm) (hZ : va_Nw w s) : va_Nw w U := by
  cases w with
  | fieldLinkNest => exact va_Nw.warmF hW hZ
  | methodLinkNest => exact va_Nw.warmM hW hZ
  | arrayOver t =>
    cases t with
    | object C => exact va_AO.moved (C := C) hW.alike hZ
    | _ => cases h
  | _ => cases h
theorem qNw_same {w : Cond} (h : qIsNest w = true) {s U : State} (hv : s.vm = U.vm) (hZ : va_Nw w s) : va_Nw w U := by
  cases w with
  | fieldLinkNest => exact va_Nw.same rfl hv hZ
  | methodLinkNest => exact va_Nw.same rfl hv hZ
  | arrayOver t =>
    cases t with
    | object C => exact va_AO.moved (C := C) (by rw [← hv]; exact Vm.Alike.refl _) hZ
    | _ => cases h
  | _ => cases h
theorem qK.warm {D : va_G} {cs : qC} {s U : State} (h : qK D cs s) (hW : s.WarmedH U.vm) : qK D cs U := ⟨va_K.moved hW.alike h.1, fun w hw => qNw_warm (qNL_nest w hw) hW (h.2 w hw)⟩
theorem qK.calling {D : va_G} {cs : qC} {U : State} {g : JFrame} {mk : MethodId} {a : Array Value} (h : qK D cs U) : qK D cs (U.calling g mk a) :=
  ⟨va_K.moved (u := U) (U := U.calling g mk a) (Vm.Alike.refl U.vm) h.1, fun w hw => qNw_same (qNL_nest w hw) (rfl : U.vm = (U.calling g mk a).vm) (h.2 w hw)⟩
theorem qPc_blind {D : va_G} {cs : qC} {M : qM} {N : Nat} {av : List Value} : FrameBlind (qPc D cs M N av) := fun _ _ _ _ q => ⟨q.1, q.2.1, q.2.2.1.calling, q.2.2.2⟩
theorem qP_one {D : va_G} {M : qM} {H : Heap} (h : qP D M H) {a : Nat} {e : va_E} (hM : M a = some e) : va_P D vwCl [(a, e)] H := fun k q hk => by
  cases k with
  | zero => cases hk; exact h a e hM
  | succ k => simp at hk
theorem qI.start {D : va_G} {cs : qC} {M : qM} {N : Nat} {av : List Value} {v : Array Value} {s : State} (h : qPc D cs M N av v s) : qI D M s.heap M N s.heap [] :=
  ⟨h.2.1, h.2.2.2, fun _ _ he => Or.inl (by rw [he]; exact fun z => by cases z), va_S.rf⟩
theorem qI.in {D : va_G} {M0 M : qM} {H0 H : Heap} {N a : Nat} {e : va_E} {locs : List Loc} (h : qI D M0 H0 M N H locs) (hM : M a = some e) : qA M0 H0.size a := h.2.2.1 a e hM
theorem qI.sub {D : va_G} {M0 M : qM} {H0 H : Heap} {N : Nat} {locs : List Loc} (h : qI D M0 H0 M N H locs) : ∀ q, qA M N q → qA M0 H0.size q := fun q hq => by
  rcases hq with hq | hq
  · cases hm : M q with
    | none => exact absurd hm hq
    | some e => exact h.2.2.1 q e hm
  · exact Or.inr (Nat.le_trans h.2.2.2.1 (by rw [h.2.1]; exact hq))
/-- a cell is written -/
theorem qI.put {D : va_G} {M0 M : qM} {H0 H H1 : Heap} {N a k : Nat} {e0 e : va_E} {locs : List Loc} (h : qI D M0 H0 M N H locs) (hM : M a = some e0) (he : va_at D vwCl (a, e) H1) (z : H1.size = H.size) (oq : ∀ q : Nat, q ≠ a → H1[q]? = H[q]?) :
    qI D M0 H0 (qUp M a e) N H1 (locs ++ [⟨a, k⟩]) := by
  refine ⟨fun x ex hx => ?_, z.trans h.2.1, fun x ex hx => ?_, h.2.2.2.put z oq (h.in hM)⟩
  · by_cases hxa : x = a
    · subst hxa; rw [qUp_at] at hx; cases hx; exact he
    · rw [qUp_ne hxa] at hx; exact (h.1 x ex hx).kept (oq x hxa)
  · by_cases hxa : x = a
    · subst hxa; exact h.in hM
    · rw [qUp_ne hxa] at hx; exact h.2.2.1 x ex hx
/-- a cell is made -/
theorem qI.push {D : va_G} {M0 M : qM} {H0 H H1 : Heap} {N : Nat} {e : va_E} {locs : List Loc} (h : qI D M0 H0 M N H locs) (he : va_at D vwCl (N, e) H1) (z : H1.size = H.size + 1) (oq : ∀ q : Nat, q < H.size → H1[q]? = H[q]?) :
    qI D M0 H0 (qUp M N e) (N + 1) H1 locs := by
  have hle := h.2.2.2.1
  have hN := h.2.1
  refine ⟨fun x ex hx => ?_, by omega, fun x ex hx => ?_, ⟨by omega, fun q h1 h2 => (oq q (by omega)).trans (h.2.2.2.2.1 q h1 h2), h.2.2.2.2.2⟩⟩
  · by_cases hxa : x = N
    · subst hxa; rw [qUp_at] at hx; cases hx; exact he
    · rw [qUp_ne hxa] at hx
      exact (h.1 x ex hx).kept (oq x (h.1 x ex hx).lt)
  · by_cases hxa : x = N
    · subst hxa; exact Or.inr (by omega)
    · rw [qUp_ne hxa] at hx; exact h.2.2.1 x ex hx
/-- the end of a method -/
theorem qI.end {D : va_G} {M0 M : qM} {N0 N : Nat} {H : Heap} {locs : List Loc} {s t : State} {post : Option Value → qM → Nat → Prop} {r : Option Value} {av : Array Value} (h : qI D M0 s.heap M N H locs) (hN : s.heap.size = N0) (hp : post r M N) (ht : t.heap = H) : qQ D M0 N0 post av s (.returned r) t := by
  subst hN; subst ht
  exact ⟨r, M, N, rfl, hp, h.1, h.2.1, h.2.2.1, by rw [← h.2.1]; exact h.2.2.2.1, fun q h1 h2 => h.2.2.2.2.1 q h1 h2⟩
/-- behind a call -/
theorem qI.call {D : va_G} {M0 M M' : qM} {H0 H H1 : Heap} {N N' : Nat} {locs L : List Loc} (h : qI D M0 H0 M N H locs) (hP : qP D M' H1) (hz : H1.size = N') (hd : ∀ a e, M' a = some e → qA M N a) (hle : N ≤ N') (hk : ∀ q : Nat, q < N → ¬ qA M N q → H1[q]? = H[q]?) (hL : ∀ q ∈ L, qA M N q.base) :
    qI D M0 H0 M' N' H1 (locs ++ L) := by
  have h1 := h.2.2.2.1
  have h2 := h.2.1
  refine ⟨hP, hz, fun a e he => h.sub a (hd a e he), ⟨by omega, fun q q1 q2 => ?_, fun q hq => ?_⟩⟩
  · rw [hk q (by omega) (fun z => q2 (h.sub q z))]
    exact h.2.2.2.2.1 q q1 q2
  · rcases List.mem_append.mp hq with z | z
    · exact h.2.2.2.2.2 q z
    · exact h.sub _ (hL q z)
section QQ
variable {p : Program} {l : Launch} {e : Env} {R : Room} {s : State} {m : MethodId} {args : Array Value} {below : List Frame} {meth : Method} {c : Code} {H : Heap} {locs : List Loc} {cells slots : Nat} {Q : State → Prop}
variable {cc : ByteArray} {pc : Nat} {ls : Array Slot} {rest : List Value} {D : va_G} {cs : qC} {M0 M : qM} {N a : Nat}
theorem q_get (hexec : p.tables.exec = Jvm.exec) (hb : c.code = cc) {own ref C : String} {T : u_T} {NN ci index : Nat} {Ts : List Cond} (hts : ∀ w ∈ Ts, w.before args s = true) (hin : ∀ w ∈ u_ws C T NN, w ∈ Ts) (hown : s.vm.findClass own = some m.cls) (hK : qK D cs s) (hI : qI D M0 s.heap M N H locs) {fs : List Value} (hM : M a = some (.inr (ci, fs))) (hc : vwCl[ci]? = some (C, T, NN)) (k : Nat) (hk : k < NN) (hlink : (Cond.fieldLink own index ref (T k).2.1 (T k).2.2.1).before args s = true) (hsame : ∀ x, s.fieldFound? (T k).1 (T k).2.1 (T k).2.2.1 = some x → s.fieldFound? ref (T k).2.1 (T k).2.2.1 = some x) {v : Value} (hv : fs[k]? = some v) (hdg : decode cc pc = .ok (.getfield index, 3))
    (kk : W p l e R s m args below meth c H locs cells slots Q (F0 m (pc + 3) ls (v :: rest))) : W p l e R s m args below meth c H locs cells slots Q (F0 m pc ls (.ref a :: rest)) :=
  va_get hexec hb hts hin hown hK.1 (qP_one hI.1 hM) 0 rfl hc k hk hlink hsame hv hdg kk
theorem q_getN (hexec : p.tables.exec = Jvm.exec) (hb : c.code = cc) {own ref C host : String} {T : u_T} {NN ci index : Nat} {Ts : List Cond} (hts : ∀ w ∈ Ts, w.before args s = true) (hin : ∀ w ∈ u_ws C T NN, w ∈ Ts) (hown : s.vm.findClass own = some m.cls) (hK : qK D cs s) (hI : qI D M0 s.heap M N H locs) {fs : List Value} (hM : M a = some (.inr (ci, fs))) (hc : vwCl[ci]? = some (C, T, NN)) (k : Nat) (hk : k < NN) (hlink : va_Nw (.fieldLinkNest own index ref (T k).2.1 (T k).2.2.1 host) s) (hsame : ∀ x, s.fieldFound? (T k).1 (T k).2.1 (T k).2.2.1 = some x → s.fieldFound? ref (T k).2.1 (T k).2.2.1 = some x) {v : Value} (hv : fs[k]? = some v) (hdg : decode cc pc = .ok (.getfield index, 3))
    (kk : W p l e R s m args below meth c H locs cells slots Q (F0 m (pc + 3) ls (v :: rest))) : W p l e R s m args below meth c H locs cells slots Q (F0 m pc ls (.ref a :: rest)) :=
  va_getN hexec hb hts hin hown hK.1 (qP_one hI.1 hM) 0 rfl hc k hk (va_Nw.use rfl hlink) hsame hv hdg kk
theorem q_put (hexec : p.tables.exec = Jvm.exec) (hb : c.code = cc) {own ref C : String} {T : u_T} {NN ci index : Nat} {Ts : List Cond} (hts : ∀ w ∈ Ts, w.before args s = true) (hin : ∀ w ∈ u_ws C T NN, w ∈ Ts) {ty0 : Nat → FieldType} (hty : ∀ k, k < NN → parseFieldDescriptor (T k).2.2.1 = some (ty0 k)) (hnm : ∀ a, a < NN → ∀ b, b < NN → a ≠ b → (T a).2.1 ≠ (T b).2.1) (hown : s.vm.findClass own = some m.cls) (hK : qK D cs s) (hI : qI D M0 s.heap M N H locs) {fs : List Value} (hM : M a = some (.inr (ci, fs))) (hc : vwCl[ci]? = some (C, T, NN)) (k : Nat) (hk : k < NN) (hlink : (Cond.fieldLink own index ref (T k).2.1 (T k).2.2.1).before args s = true) (hsame : ∀ x, s.fieldFound? (T k).1 (T k).2.1 (T k).2.2.1 = some x → s.fieldFound? ref (T k).2.1 (T k).2.2.1 = some x) (hfin : (T k).2.2.2 = false) {v : Value} (hn : narrow (ty0 k) v = v) (hfit : fits (ty0 k) v = true) (hl : k < fs.length)
    (hdg : decode cc pc = .ok (.putfield index, 3)) (kk : ∀ (H1 : Heap) (locs1 : List Loc), qI D M0 s.heap (qUp M a (.inr (ci, fs.set k v))) N H1 locs1 → W p l e R s m args below meth c H1 locs1 cells slots Q (F0 m (pc + 3) ls rest)) : W p l e R s m args below meth c H locs cells slots Q (F0 m pc ls (v :: .ref a :: rest)) := by
  have hap := va_apart (own := own) hts hin ty0 hty hnm hK.1 hc
  obtain ⟨r, h1, cell, q1, q2, q3, q4⟩ := hI.1 a _ hM
  have hr : r = (C, T, NN) := Option.some.inj (h1.symm.trans hc)
  subst hr
  obtain ⟨hS, hfc, kC, hkC, hkind⟩ := hK.1.1 ci _ hc
  obtain ⟨cf, kf, fi, f, hi, hsl⟩ := hS k hk
  have hlay := hts _ (hin _ (u_in_lay hk))
  unfold u_lay at hlay
  rw [if_neg (by rw [hfin]; decide)] at hlay
  have hst := (u_facts hfc hkC (u_lays hts hin hk) hi).1
  have h6 := u_store hfc hkC hkind hlay hi (hty k hk) hn hfit
  refine W.putK hexec hb (f := f) ⟨hown, hlink, ⟨_, _, _, hsame _ hi⟩, hst⟩ (by rw [q2]; exact h6) q1 q3 (by rw [hsl]; exact k2_hasslot (q4 k hk)) rfl rfl hdg fun H' e1 e2 e3 => ?_
  rw [hsl] at e1 ⊢
  exact kk H' _ (hI.put hM ⟨_, hc, t_OB.to (V := updV (vp_V fs) k v) ⟨_, e1, q2, q3, t_set q4 hap hk v⟩ (fun j _ => vp_updV_set hl v j)⟩ e2 e3)
theorem q_putN (hexec : p.tables.exec = Jvm.exec) (hb : c.code = cc) {own ref C host : String} {T : u_T} {NN ci index : Nat} {Ts : List Cond} (hts : ∀ w ∈ Ts, w.before args s = true) (hin : ∀ w ∈ u_ws C T NN, w ∈ Ts) {ty0 : Nat → FieldType} (hty : ∀ k, k < NN → parseFieldDescriptor (T k).2.2.1 = some (ty0 k)) (hnm : ∀ a, a < NN → ∀ b, b < NN → a ≠ b → (T a).2.1 ≠ (T b).2.1) (hown : s.vm.findClass own = some m.cls) (hK : qK D cs s) (hI : qI D M0 s.heap M N H locs) {fs : List Value} (hM : M a = some (.inr (ci, fs))) (hc : vwCl[ci]? = some (C, T, NN)) (k : Nat) (hk : k < NN) (hlink : va_Nw (.fieldLinkNest own index ref (T k).2.1 (T k).2.2.1 host) s) (hsame : ∀ x, s.fieldFound? (T k).1 (T k).2.1 (T k).2.2.1 = some x → s.fieldFound? ref (T k).2.1 (T k).2.2.1 = some x) (hfin : (T k).2.2.2 = false) {v : Value} (hn : narrow (ty0 k) v = v) (hfit : fits (ty0 k) v = true) (hl : k < fs.length)
    (hdg : decode cc pc = .ok (.putfield index, 3)) (kk : ∀ (H1 : Heap) (locs1 : List Loc), qI D M0 s.heap (qUp M a (.inr (ci, fs.set k v))) N H1 locs1 → W p l e R s m args below meth c H1 locs1 cells slots Q (F0 m (pc + 3) ls rest)) : W p l e R s m args below meth c H locs cells slots Q (F0 m pc ls (v :: .ref a :: rest)) := by
  have hap := va_apart (own := own) hts hin ty0 hty hnm hK.1 hc
  obtain ⟨r, h1, cell, q1, q2, q3, q4⟩ := hI.1 a _ hM
  have hr : r = (C, T, NN) := Option.some.inj (h1.symm.trans hc)
  subst hr
  obtain ⟨hS, hfc, kC, hkC, hkind⟩ := hK.1.1 ci _ hc
  obtain ⟨cf, kf, fi, f, hi, hsl⟩ := hS k hk
  have hlay := hts _ (hin _ (u_in_lay hk))
  unfold u_lay at hlay
  rw [if_neg (by rw [hfin]; decide)] at hlay
  have hst := (u_facts hfc hkC (u_lays hts hin hk) hi).1
  have h6 := u_store hfc hkC hkind hlay hi (hty k hk) hn hfit
  refine va_WputK hexec hb (f := f) hown (va_Nw.use rfl hlink) (hsame _ hi) hst (by rw [q2]; exact h6) q1 q3 (by rw [hsl]; exact k2_hasslot (q4 k hk)) rfl rfl hdg fun H' e1 e2 e3 => ?_
  rw [hsl] at e1 ⊢
  exact kk H' _ (hI.put hM ⟨_, hc, t_OB.to (V := updV (vp_V fs) k v) ⟨_, e1, q2, q3, t_set q4 hap hk v⟩ (fun j _ => vp_updV_set hl v j)⟩ e2 e3)
theorem q_putF (hexec : p.tables.exec = Jvm.exec) (hb : c.code = cc) {own ref C : String} {T : u_T} {NN ci index : Nat} {Ts : List Cond} (hts : ∀ w ∈ Ts, w.before args s = true) (hin : ∀ w ∈ u_ws C T NN, w ∈ Ts) {ty0 : Nat → FieldType} (hty : ∀ k, k < NN → parseFieldDescriptor (T k).2.2.1 = some (ty0 k)) (hnm : ∀ a, a < NN → ∀ b, b < NN → a ≠ b → (T a).2.1 ≠ (T b).2.1) (hown : s.vm.findClass own = some m.cls) (hK : qK D cs s) (hI : qI D M0 s.heap M N H locs) {fs : List Value} (hM : M a = some (.inr (ci, fs))) (hc : vwCl[ci]? = some (C, T, NN)) (k : Nat) (hk : k < NN) (hlink : (Cond.fieldLink own index ref (T k).2.1 (T k).2.2.1).before args s = true) (hsame : ∀ x, s.fieldFound? (T k).1 (T k).2.1 (T k).2.2.1 = some x → s.fieldFound? ref (T k).2.1 (T k).2.2.1 = some x) (hfin : (T k).2.2.2 = true) (hin2 : meth.name = "<init>") (hdecl : (T k).1 = own) {v : Value} (hn : narrow (ty0 k) v = v) (hfit : fits (ty0 k) v = true) (hl : k < fs.length)
    (hdg : decode cc pc = .ok (.putfield index, 3)) (kk : ∀ (H1 : Heap) (locs1 : List Loc), qI D M0 s.heap (qUp M a (.inr (ci, fs.set k v))) N H1 locs1 → W p l e R s m args below meth c H1 locs1 cells slots Q (F0 m (pc + 3) ls rest)) : W p l e R s m args below meth c H locs cells slots Q (F0 m pc ls (v :: .ref a :: rest)) := by
  have hap := va_apart (own := own) hts hin ty0 hty hnm hK.1 hc
  obtain ⟨r, h1, cell, q1, q2, q3, q4⟩ := hI.1 a _ hM
  have hr : r = (C, T, NN) := Option.some.inj (h1.symm.trans hc)
  subst hr
  obtain ⟨hS, hfc, kC, hkC, hkind⟩ := hK.1.1 ci _ hc
  obtain ⟨cf, kf, fi, f, hi, hsl⟩ := hS k hk
  have hlay := hts _ (hin _ (u_in_lay hk))
  unfold u_lay at hlay
  rw [if_pos hfin] at hlay
  have hst := (u_facts hfc hkC (u_lays hts hin hk) hi).1
  have hcf : m.cls = cf := by
    obtain ⟨_, _, c', _, _, _, -, -, hf', -, -, -, hown2, -⟩ := Cond.laysFinal_spec hlay
    have e1 : c' = cf := by have := hi.symm.trans hf'; simp at this; exact this.1.symm
    rw [hdecl] at hown2
    rw [← e1]; exact Option.some.inj (hown.symm.trans hown2)
  have h6 := u_fits hfc hkC hkind (u_lays hts hin hk) hi (hty k hk) hn hfit
  refine W.putFinK hexec hb hown hlink (hsame _ hi) hst hcf hin2 (by rw [q2]; exact h6) q1 q3 (by rw [hsl]; exact k2_hasslot (q4 k hk)) rfl rfl hdg fun H' e1 e2 e3 => ?_
  rw [hsl] at e1 ⊢
  exact kk H' _ (hI.put hM ⟨_, hc, t_OB.to (V := updV (vp_V fs) k v) ⟨_, e1, q2, q3, t_set q4 hap hk v⟩ (fun j _ => vp_updV_set hl v j)⟩ e2 e3)
theorem q_iald (hexec : p.tables.exec = Jvm.exec) (hb : c.code = cc) (hK : qK D cs s) (hI : qI D M0 s.heap M N H locs) {n : Nat} {f : Nat → Int32} (hM : M a = some (.inl (cs 0, n, .inl f))) {i : Int32} (hin : vp_in i n) (hdg : decode cc pc = .ok (.iaload, 1))
    (kk : W p l e R s m args below meth c H locs cells slots Q (F0 m (pc + 1) ls (.int (f i.toNatClampNeg) :: rest))) : W p l e R s m args below meth c H locs cells slots Q (F0 m pc ls (.int i :: .ref a :: rest)) :=
  va_iald hexec hb hK.1 (qP_one hI.1 hM) 0 0 rfl rfl hin hdg kk
theorem q_lald (hexec : p.tables.exec = Jvm.exec) (hb : c.code = cc) (hK : qK D cs s) (hI : qI D M0 s.heap M N H locs) {n : Nat} {f : Nat → Int64} (hM : M a = some (.inl (cs 3, n, .inr (.inl f)))) {i : Int32} (hin : vp_in i n) (hdg : decode cc pc = .ok (.laload, 1))
    (kk : W p l e R s m args below meth c H locs cells slots Q (F0 m (pc + 1) ls (.long (f i.toNatClampNeg) :: rest))) : W p l e R s m args below meth c H locs cells slots Q (F0 m pc ls (.int i :: .ref a :: rest)) :=
  va_lald hexec hb hK.1 (qP_one hI.1 hM) 0 3 rfl rfl hin hdg kk
/-- an array of references: kind 1 quarries, kind 2 words -/
theorem q_aald (hexec : p.tables.exec = Jvm.exec) (hb : c.code = cc) (hK : qK D cs s) (hI : qI D M0 s.heap M N H locs) (t0 : Nat) {C : String} (ht : (qT cs)[t0]? = some (cs t0, .object C)) {n : Nat} {f : Nat → Option Nat} (hM : M a = some (.inl (cs t0, n, .inr (.inr (.inr (.inr f)))))) {i : Int32} (hin : vp_in i n) (hdg : decode cc pc = .ok (.aaload, 1))
    (kk : W p l e R s m args below meth c H locs cells slots Q (F0 m (pc + 1) ls (va_rf (f i.toNatClampNeg) :: rest))) : W p l e R s m args below meth c H locs cells slots Q (F0 m pc ls (.int i :: .ref a :: rest)) :=
  va_aldq hexec hb hK.1 (qP_one hI.1 hM) 0 t0 rfl ht hin hdg kk
theorem q_alen (hexec : p.tables.exec = Jvm.exec) (hb : c.code = cc) (hK : qK D cs s) (hI : qI D M0 s.heap M N H locs) (t0 : Nat) {ty : FieldType} (ht : (qT cs)[t0]? = some (cs t0, ty)) {x : vp_A} (hM : M a = some (.inl (cs t0, x))) {v : Int32} (hv : Int32.ofNat x.1 = v) (hdg : decode cc pc = .ok (.arraylength, 1))
    (kk : W p l e R s m args below meth c H locs cells slots Q (F0 m (pc + 1) ls (.int v :: rest))) : W p l e R s m args below meth c H locs cells slots Q (F0 m pc ls (.ref a :: rest)) :=
  va_alen hexec hb hK.1 (qP_one hI.1 hM) 0 t0 rfl ht hv hdg kk
theorem q_iast (hexec : p.tables.exec = Jvm.exec) (hb : c.code = cc) (hK : qK D cs s) (hI : qI D M0 s.heap M N H locs) {n : Nat} {f : Nat → Int32} (hM : M a = some (.inl (cs 0, n, .inl f))) {i x : Int32} (hin : vp_in i n) (hdg : decode cc pc = .ok (.iastore, 1))
    (kk : ∀ (H1 : Heap) (locs1 : List Loc), qI D M0 s.heap (qUp M a (.inl (cs 0, n, .inl (upd f i.toNatClampNeg x)))) N H1 locs1 → W p l e R s m args below meth c H1 locs1 cells slots Q (F0 m (pc + 1) ls rest)) : W p l e R s m args below meth c H locs cells slots Q (F0 m pc ls (.int x :: .int i :: .ref a :: rest)) := by
  refine W.iast hexec hb (hI.1 a _ hM) ((hK.1.2 0 _ rfl).1 n (fun j => .int (f j))) (fun q => by cases q) (by show ¬ (i < 0 ∨ (arrV _ _ _).slots.size ≤ _); rw [arrV_size]; exact hin) rfl rfl hdg fun H1 e z oq => ?_
  refine kk H1 _ (hI.put hM ?_ z oq)
  show H1[a]? = some (vp_cell _ _)
  rw [e]
  rw [vp_cell_i, vp_cell_i, arrV_store]
  congr 2
  funext q
  by_cases hq : q = i.toNatClampNeg
  · subst hq
    simp [updV, upd]
  · simp [updV, upd, hq]
theorem q_last (hexec : p.tables.exec = Jvm.exec) (hb : c.code = cc) (hK : qK D cs s) (hI : qI D M0 s.heap M N H locs) {n : Nat} {f : Nat → Int64} (hM : M a = some (.inl (cs 3, n, .inr (.inl f)))) {i : Int32} {x : Int64} (hin : vp_in i n) (hdg : decode cc pc = .ok (.lastore, 1))
    (kk : ∀ (H1 : Heap) (locs1 : List Loc), qI D M0 s.heap (qUp M a (.inl (cs 3, n, .inr (.inl (vp_updL f i.toNatClampNeg x))))) N H1 locs1 → W p l e R s m args below meth c H1 locs1 cells slots Q (F0 m (pc + 1) ls rest)) : W p l e R s m args below meth c H locs cells slots Q (F0 m pc ls (.long x :: .int i :: .ref a :: rest)) := by
  refine W.last hexec hb (hI.1 a _ hM) ((hK.1.2 3 _ rfl).1 n (fun j => .long (f j))) (fun q => by cases q) (by show ¬ (i < 0 ∨ (arrV _ _ _).slots.size ≤ _); rw [arrV_size]; exact hin) rfl rfl hdg fun H1 e z oq => ?_
  refine kk H1 _ (hI.put hM ?_ z oq)
  show H1[a]? = some (vp_cell _ _)
  rw [e]
  rw [vp_cell_l, vp_cell_l, arrV_store]
  congr 2
  funext q
  by_cases hq : q = i.toNatClampNeg
  · subst hq
    simp [updV, vp_updL]
  · simp [updV, vp_updL, hq]
theorem q_aast (hexec : p.tables.exec = Jvm.exec) (hb : c.code = cc) (hK : qK D cs s) (hI : qI D M0 s.heap M N H locs) (t0 : Nat) {r : vw_C} {ci v : Nat} {vs : List Value} (ht : (qT cs)[t0]? = some (cs t0, .object r.1)) {n : Nat} {f : Nat → Option Nat} (hM : M a = some (.inl (cs t0, n, .inr (.inr (.inr (.inr f)))))) (hv : M v = some (.inr (ci, vs))) (hc : vwCl[ci]? = some r) {i : Int32} (hin : vp_in i n) (hdg : decode cc pc = .ok (.aastore, 1))
    (kk : ∀ (H1 : Heap) (locs1 : List Loc), qI D M0 s.heap (qUp M a (.inl (cs t0, n, .inr (.inr (.inr (.inr (va_up f i.toNatClampNeg (some v)))))))) N H1 locs1 → W p l e R s m args below meth c H1 locs1 cells slots Q (F0 m (pc + 1) ls rest)) : W p l e R s m args below meth c H locs cells slots Q (F0 m pc ls (.ref v :: .int i :: .ref a :: rest)) := by
  have hlt : i.toNatClampNeg < n := Nat.not_le.mp fun q => hin (Or.inr q)
  have h0 : ¬ i < 0 := fun q => hin (Or.inl q)
  obtain ⟨r', hr', cellV, g1, g2, g3, -⟩ := hI.1 v _ hv
  have hcls := (hK.1.1 ci r hc).2
  obtain ⟨kA, comp, k1, k2, k3, -⟩ := (hK.1.2 t0 _ ht).2
  have hcomp : comp = D.1 ci := Option.some.inj (k3.symm.trans hcls.1)
  subst hcomp
  obtain ⟨kC, hkC, -⟩ := hcls.2
  refine W.aast hexec hb (hI.1 a _ hM) (fun q h => by cases h) (fun h => by cases h) k1 k2 rfl hkC ⟨h0, by show _ < (arrV _ _ _).slots.size; rw [arrV_size]; exact hlt⟩ g1 (fun q h => by rw [g3] at h; cases h) (by rw [g2]; exact hkC) (by rw [g2]; exact va_assign hcls) rfl rfl hdg fun H1 e z oq => ?_
  refine kk H1 _ (hI.put hM ?_ z oq)
  show H1[a]? = some (vp_cell _ _)
  rw [e]
  rw [vp_cell_q, vp_cell_q, arrV_store]
  congr 2
  funext q
  by_cases hq : q = i.toNatClampNeg
  · subst hq
    simp [updV, va_up, va_rf]
  · simp [updV, va_up, hq]
end QQ
