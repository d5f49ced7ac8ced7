/-! BYTES and text builders in the model: rows, heads, runners -/
section QB
variable {p : Program} {l : Launch} {e : Env} {R : Room} {s : State} {m : MethodId} {args : Array Value} {below : List Frame} {meth : Method} {c : Code} {H : Heap} {locs : List Loc} {cells slots : Nat} {Q : State → Prop}
variable {cc : ByteArray} {pc : Nat} {ls : Array Slot} {rest : List Value} {D : va_G} {cs : qC} {M0 M : qM} {N a : Nat}
abbrev qbyt (cs : qC) (n : Nat) (f : Nat → Int32) : va_E := .inl (cs 4, n, .inl f)
theorem q_zerosB (cI : ClassId) (k : Nat) : arrV cI k (fun _ => defaultValue .byte) = vp_cell cI (k, .inl (fun _ => 0)) := by
  rw [vp_cell_i]
  rfl
theorem q_newB (hexec : p.tables.exec = Jvm.exec) (hb : c.code = cc) (hg : ∀ w ∈ qG, w.before args s = true) (hK : qK D cs s) (hI : qI D M0 s.heap M N H locs) {n : Int32} (k : Nat) (hn : ¬ n < 0) (hk : n.toNatClampNeg = k) (hbytes : k * componentBytes .byte ≤ 536870912) (hcells : cells + 1 ≤ R.cells) (hslots : slots + k ≤ R.slots) (hdg : decode cc pc = .ok (.newarray .byte, 2))
    (kk : ∀ H1 : Heap, qI D M0 s.heap (qUp M N (qbyt cs k (fun _ => 0))) (N + 1) H1 locs → W p l e R s m args below meth c H1 locs (cells + 1) (slots + k) Q (F0 m (pc + 2) ls (.ref N :: rest))) : W p l e R s m args below meth c H locs cells slots Q (F0 m pc ls (.int n :: rest)) := by
  refine va_newaK hexec hb (atype := .byte) (hg _ wa_byte) rfl hdg rfl hn hk hbytes hcells hslots hI.2.1 fun H1 cA e1 z1 o1 hAr hNm => ?_
  have hcA : cA = cs 4 := Option.some.inj (hNm.symm.trans (hK.1.2 4 _ rfl).2)
  subst hcA
  refine kk H1 (hI.push ?_ (by rw [z1, hI.2.1]) (fun q hq => o1 q (by rw [← hI.2.1]; exact hq)))
  show H1[N]? = some (vp_cell _ _)
  rw [e1]
  exact congrArg some (q_zerosB _ k)
theorem q_newL (hexec : p.tables.exec = Jvm.exec) (hb : c.code = cc) (hg : ∀ w ∈ qG, w.before args s = true) (hK : qK D cs s) (hI : qI D M0 s.heap M N H locs) {n : Int32} (k : Nat) (hn : ¬ n < 0) (hk : n.toNatClampNeg = k) (hbytes : k * componentBytes .long ≤ 536870912) (hcells : cells + 1 ≤ R.cells) (hslots : slots + k ≤ R.slots) (hdg : decode cc pc = .ok (.newarray .long, 2))
    (kk : ∀ H1 : Heap, qI D M0 s.heap (qUp M N (.inl (cs 3, k, .inr (.inl (fun _ => 0))))) (N + 1) H1 locs → W p l e R s m args below meth c H1 locs (cells + 1) (slots + k) Q (F0 m (pc + 2) ls (.ref N :: rest))) : W p l e R s m args below meth c H locs cells slots Q (F0 m pc ls (.int n :: rest)) := by
  refine va_newaK hexec hb (atype := .long) (hg _ wa_long) rfl hdg rfl hn hk hbytes hcells hslots hI.2.1 fun H1 cA e1 z1 o1 hAr hNm => ?_
  have hcA : cA = cs 3 := Option.some.inj (hNm.symm.trans (hK.1.2 3 _ rfl).2)
  subst hcA
  refine kk H1 (hI.push ?_ (by rw [z1, hI.2.1]) (fun q hq => o1 q (by rw [← hI.2.1]; exact hq)))
  show H1[N]? = some (vp_cell _ _)
  rw [e1, vp_cell_l]
  rfl
theorem q_bald (hexec : p.tables.exec = Jvm.exec) (hb : c.code = cc) (hK : qK D cs s) (hI : qI D M0 s.heap M N H locs) {n : Nat} {f : Nat → Int32} (hM : M a = some (qbyt cs n f)) {i : Int32} (hin : vp_in i n) (hdg : decode cc pc = .ok (.baload, 1))
    (kk : W p l e R s m args below meth c H locs cells slots Q (F0 m (pc + 1) ls (.int (f i.toNatClampNeg) :: rest))) : W p l e R s m args below meth c H locs cells slots Q (F0 m pc ls (.int i :: .ref a :: rest)) :=
  va_bald hexec hb hK.1 (qP_one hI.1 hM) 0 4 rfl rfl hin hdg kk
theorem q_bast (hexec : p.tables.exec = Jvm.exec) (hb : c.code = cc) (hK : qK D cs s) (hI : qI D M0 s.heap M N H locs) {n : Nat} {f : Nat → Int32} (hM : M a = some (qbyt cs n f)) {i x y : Int32} (hin : vp_in i n) (hy : narrow .byte (.int x) = .int y) (hdg : decode cc pc = .ok (.bastore, 1))
    (kk : ∀ (H1 : Heap) (locs1 : List Loc), qI D M0 s.heap (qUp M a (qbyt cs n (upd f i.toNatClampNeg y))) N H1 locs1 → W p l e R s m args below meth c H1 locs1 cells slots Q (F0 m (pc + 1) ls rest)) : W p l e R s m args below meth c H locs cells slots Q (F0 m pc ls (.int x :: .int i :: .ref a :: rest)) := by
  refine W.bast hexec hb (hI.1 a _ hM) ((hK.1.2 4 _ rfl).1 n (fun j => .int (f j))) (fun q => by cases q) (by show ¬ (i < 0 ∨ (arrV _ _ _).slots.size ≤ _); rw [arrV_size]; exact hin) rfl rfl hdg fun H1 e z oq => ?_
  refine kk H1 _ (hI.put hM ?_ z oq)
  show H1[a]? = some (vp_cell _ _)
  rw [e, hy]
  rw [vp_cell_i, vp_cell_i, arrV_store]
  congr 2
  funext q
  by_cases hq : q = i.toNatClampNeg
  · subst hq
    simp [updV, upd]
  · simp [updV, upd, hq]
/-- a row of bytes of the model, told as a fact -/
theorem qI.tB (hK : qK D cs s) (hI : qI D M0 s.heap M N H locs) {n : Nat} {f : Nat → Int32} (hM : M a = some (qbyt cs n f)) : va_T .byte a n (fun j => .int (f j)) qNo s H := by
  refine ⟨_, hI.1 a _ hM, (hK.1.2 4 _ rfl).1 n (fun j => .int (f j)), (fun q => by cases q), ?_, ?_, fun j hj => ?_, fun z => z⟩
  · show _ ≤ (arrV _ _ _).slots.size
    rw [arrV_size]
    exact Nat.le_refl _
  · show (arrV _ _ _).slots.size.toInt32 = _
    rw [arrV_size]
  · show (arrV _ _ _).slots[j]? = _
    rw [arrV_read _ _ hj]
theorem q_copied {cI : ClassId} {scr : Cell} {n0 n1 sp dp n : Nat} {f g : Nat → Int32} (hs : ∀ j : Nat, j < n0 → scr.slots[j]? = some (.int (f j))) (h : sp + n ≤ n0) :
    (arrV cI n1 (fun j => .int (g j))).storeRun dp (scr.stretch sp n) = arrV cI n1 (fun j => .int (va_cpy f g sp dp n j)) := by
  have e : scr.stretch sp n = (arrV cI n0 (fun j => .int (f j))).stretch sp n := by
    unfold Cell.stretch
    apply List.map_congr_left
    intro i hi
    have hi' := List.mem_range.mp hi
    rw [Array.getD_eq_getD_getElem?, Array.getD_eq_getD_getElem?, arrV_read _ _ (by omega), hs _ (by omega)]
  rw [e]
  exact va_copied (fun z => .int z) cI cI f g h
/-- System.arraycopy into a row of bytes of the model -/
theorem q_copyT (hexec : p.tables.exec = Jvm.exec) (hb : c.code = cc) (hml : c.maxLocals = ls.size) {own : String} {index : Nat} (hown : s.vm.findClass own = some m.cls) (hlink : (Cond.methodLink own index arraycopyName).before args s = true) (hnat : (Cond.native arraycopyName).before args s = true) (hstat : (Cond.static arraycopyName).before args s = true) (hini : (Cond.initialized "java/lang/System").before args s = true)
    (hK : qK D cs s) (hI : qI D M0 s.heap M N H locs) {b0 n0 n1 : Nat} {f g : Nat → Int32} (hX : va_T .byte b0 n0 (fun j => .int (f j)) qNo s H) (hM : M a = some (qbyt cs n1 g))
    {sp dp n : Int32} (h1 : ¬ sp < 0) (h2 : ¬ dp < 0) (h3 : ¬ n < 0) (h4 : sp.toNatClampNeg + n.toNatClampNeg ≤ n0) (h5 : dp.toNatClampNeg + n.toNatClampNeg ≤ n1) (hfit : ∀ i : Nat, i < n.toNatClampNeg → fits .byte (.int (f (sp.toNatClampNeg + i))) = true)
    (hframes : 1 ≤ R.frames) (hlocals : (rest.map fun v => v.category).sum + (nativeFrameWords "java/lang/System" "arraycopy" 5 + 11) ≤ R.locals) (hdg : decode cc pc = .ok (.invokestatic index, 3))
    (kk : ∀ (H1 : Heap) (locs1 : List Loc), qI D M0 s.heap (qUp M a (qbyt cs n1 (va_cpy f g sp.toNatClampNeg dp.toNatClampNeg n.toNatClampNeg))) N H1 locs1 → W p l e R s m args below meth c H1 locs1 cells slots Q (F0 m (pc + 3) ls rest)) : W p l e R s m args below meth c H locs cells slots Q (F0 m pc ls (.int n :: .int dp :: .ref a :: .int sp :: .ref b0 :: rest)) := by
  have nn : ∀ z : Int32, ¬ z < 0 → z.toInt = (z.toNatClampNeg : Int) := by
    intro z hz
    have hz0 : (0 : Int) ≤ z.toInt := by
      have := Int32.not_lt.mp hz
      simpa using Int32.le_iff_toInt_le.mp this
    show z.toInt = ((z.toInt.toNat : Nat) : Int)
    omega
  intro T hT X
  obtain ⟨scr, x1, x2, x3, x4, -, x6, -⟩ := hX
  have hc1 : H[a]? = some (vp_cell (cs 4) (n1, .inl g)) := hI.1 a _ hM
  obtain ⟨x5, k0, hk0, cm0, hkk0⟩ := x2
  obtain ⟨-, k1, hk1, cm1, hkk1⟩ := (hK.1.2 4 _ rfl).1 n1 (fun j => .int (g j))
  obtain ⟨vm', X', step⟩ := X.arraycopy hexec hown hlink hnat hstat hini (src := b0) (dst := a) (cs := scr) (cd := vp_cell (cs 4) (n1, .inl g)) (srcPos := sp) (destPos := dp) (n := n) (by rw [hT]; exact x1) (by rw [hT]; exact hc1)
    x5 (fun _ h => by cases h) x3 (fun h => by cases h) hk0 hk1 hkk0 hkk1 (by simp [refKind]) h1 h2 h3
    (by rw [nn sp h1, nn n h3]; omega)
    (by rw [nn dp h2, nn n h3]; show ¬ _ > ((arrV (cs 4) n1 (fun j => .int (g j))).slots.size : Int); rw [arrV_size]; omega)
    (fun vm₁ _ i hi => by
      have e : scr.slots.getD (sp.toNatClampNeg + i) .null = .int (f (sp.toNatClampNeg + i)) := by
        rw [Array.getD_eq_getD_getElem?, x6 _ (by omega)]
        rfl
      rw [e]
      exact ⟨hfit i hi, trivial⟩)
    (g := F0 m pc ls (.int n :: .int dp :: .ref a :: .int sp :: .ref b0 :: rest)) rfl (by rw [hml]) (rest := rest) rfl (by rw [hb]; exact hdg) hframes (by show 2 * 0 + _ + _ ≤ _; omega)
  have e1 : copied scr (vp_cell (cs 4) (n1, .inl g)) sp dp n = vp_cell (cs 4) (n1, .inl (va_cpy f g sp.toNatClampNeg dp.toNatClampNeg n.toNatClampNeg)) := q_copied x6 h4
  rw [e1] at X' step
  generalize hC : vp_cell (cs 4) (n1, .inl (va_cpy f g sp.toNatClampNeg dp.toNatClampNeg n.toNatClampNeg)) = C at X' step
  have hl : a < H.size := (Array.getElem?_eq_some_iff.mp hc1).1
  have hheap : ((T.setVm vm').setCell a C).heap = H.setIfInBounds a C := by rw [← hT]; rfl
  have hp := hI.put (H1 := H.setIfInBounds a C) (k := 0) (e := qbyt cs n1 (va_cpy f g sp.toNatClampNeg dp.toNatClampNeg n.toNatClampNeg)) hM (by show (H.setIfInBounds a C)[a]? = some (vp_cell _ _); rw [← hC]; simp [Array.getElem?_setIfInBounds, hl]) (by simp) (fun q hq => by simp [Array.getElem?_setIfInBounds, Ne.symm hq])
  obtain ⟨t, a1, b1⟩ := kk _ _ ⟨hp.1, hp.2.1, hp.2.2.1, hp.2.2.2.1, hp.2.2.2.2.1, fun q hq => by
      rcases List.mem_append.mp hq with h | h
      · exact hI.2.2.2.2.2 q h
      · obtain ⟨z, -, hz⟩ := List.mem_map.mp h
        rw [← hz]
        exact hI.in hM⟩ _ hheap X'
  exact ⟨t, step t a1, b1⟩
theorem q_cloneB (hexec : p.tables.exec = Jvm.exec) (hb : c.code = cc) (hml : c.maxLocals = ls.size) {own : String} {index : Nat} (hown : s.vm.findClass own = some m.cls)
    (hlink : (Cond.methodLink own index ⟨"[B", "clone", "()Ljava/lang/Object;"⟩).before args s = true) (hsame : (Cond.sameMethod "[B" "java/lang/Object" "clone" "()Ljava/lang/Object;").before args s = true)
    (hnat : (Cond.native ⟨"java/lang/Object", "clone", "()Ljava/lang/Object;"⟩).before args s = true) (hinst : (Cond.instanceMethod ⟨"java/lang/Object", "clone", "()Ljava/lang/Object;"⟩).before args s = true)
    (hsel : (Cond.selects "[B" ⟨"[B", "clone", "()Ljava/lang/Object;"⟩ ⟨"java/lang/Object", "clone", "()Ljava/lang/Object;"⟩).before args s = true) (hcl : va_Nw (.castable "[B" "java/lang/Cloneable") s)
    (hK : qK D cs s) (hI : qI D M0 s.heap M N H locs) {n : Nat} {f : Nat → Int32} (hM : M a = some (qbyt cs n f)) (hfit : ∀ i : Nat, i < n → fits .byte (.int (f i)) = true)
    (hframes : 1 ≤ R.frames) (hlocals : (rest.map fun v => v.category).sum + 14 ≤ R.locals) (hcells : cells + 1 ≤ R.cells) (hslots : slots + n ≤ R.slots) (hdg : decode cc pc = .ok (.invokevirtual index, 3))
    (kk : ∀ H1 : Heap, qI D M0 s.heap (qUp M N (qbyt cs n f)) (N + 1) H1 locs → W p l e R s m args below meth c H1 locs (cells + 1) (slots + n) Q (F0 m (pc + 3) ls (.ref N :: rest))) : W p l e R s m args below meth c H locs cells slots Q (F0 m pc ls (.ref a :: rest)) := by
  have hnm : s.vm.findClass "[B" = some (cs 4) := va_nm_byte (hK.1.2 4 _ rfl).2
  obtain ⟨c0, t0', f1, f2, f3⟩ := Cond.castable_spec (va_Nw.use (A := args) rfl hcl)
  cases hnm.symm.trans f1
  intro T hT X
  have hcellT : T.heap[a]? = some (arrV (cs 4) n (fun j => .int (f j))) := by rw [hT]; exact hI.1 a _ hM
  obtain ⟨-, kA, hkA, comp, hkind⟩ := State.isArrayOf_alike X.warmed.alike ((hK.1.2 4 _ rfl).1 0 (fun _ => .null))
  obtain ⟨-, kS, hkS, compS, hkindS⟩ := (hK.1.2 4 _ rfl).1 0 (fun _ => .null)
  obtain ⟨vm', X', st⟩ := X.cloneArray hexec hown hlink hsame hnat hinst hsel (a := a) (cell := arrV (cs 4) n (fun j => .int (f j))) hcellT (fun k h => by cases h) (fun h => by cases h) hnm f2 f3
    (fun i v hv => by
      have hk' : T.vm.classes[cs 4]? = some kA := hkA
      have h9 := va_fit (ty := .byte) hfit i v hv
      rw [show (arrV (cs 4) n (fun j => .int (f j))).cls = cs 4 from rfl]
      simpa [State.fitsSlot, State.slotType?, hk', hkind] using h9)
    (g := F0 m pc ls (.ref a :: rest)) rfl (by rw [hml]) rfl (by rw [hb]; exact hdg) hframes (by show 2 * 0 + _ + 14 ≤ _; omega) hcells (by rw [arrV_size]; exact hslots) (hloader := Vm.clonesLoader_of_array hkS hkindS)
  rw [arrV_size] at X'
  have e0 : ({ cls := (arrV (cs 4) n (fun j => .int (f j))).cls, slots := (arrV (cs 4) n (fun j => .int (f j))).slots } : Cell) = arrV (cs 4) n (fun j => .int (f j)) := rfl
  rw [e0] at X' st
  have hNs := hI.2.1
  obtain ⟨t, b1, b2⟩ := kk (H.push (arrV (cs 4) n (fun j => .int (f j)))) (hI.push (by show (H.push _)[N]? = some (vp_cell _ _); rw [← hNs, Array.getElem?_push_size]; rfl) (by rw [Array.size_push]) (fun q hq => by rw [Array.getElem?_push, if_neg (Nat.ne_of_lt hq)])) ((T.setVm vm').pushCell (arrV (cs 4) n (fun j => .int (f j)))) (by rw [← hT]; rfl) X'
  refine ⟨t, st t ?_, b2⟩
  rw [hT, hNs]
  exact b1
theorem q_castB (hexec : p.tables.exec = Jvm.exec) (hb : c.code = cc) {own : String} {index : Nat} (hown : s.vm.findClass own = some m.cls) (hlink : (Cond.classLink own index "[B").before args s = true) (hK : qK D cs s) (hI : qI D M0 s.heap M N H locs) {x : vp_A} (hM : M a = some (.inl (cs 4, x))) (hdg : decode cc pc = .ok (.checkcast index, 3))
    (k : W p l e R s m args below meth c H locs cells slots Q (F0 m (pc + 3) ls (.ref a :: rest))) : W p l e R s m args below meth c H locs cells slots Q (F0 m pc ls (.ref a :: rest)) :=
  va_castA hexec hb hown hlink (qP_one hI.1 hM) 0 rfl (va_nm_byte (hK.1.2 4 _ rfl).2) hdg k
/-- a fact that goes on over calls and class loading -/
def qSw (P : State → Heap → Prop) : Prop := (∀ (u U : State) (H : Heap), u.WarmedH U.vm → P u H → P U H) ∧ ∀ (u U : State) (H : Heap), u.vm = U.vm → P u H → P U H
theorem qSt.sw {P : State → Heap → Prop} (h : qSt P) : qSw P := ⟨fun u U H hW => h u U H hW.alike, fun u U H hv => h u U H (by rw [hv]; exact Vm.Alike.refl U.vm)⟩
theorem qSw.and {P P' : State → Heap → Prop} (h : qSw P) (h' : qSw P') : qSw (fun U H => P U H ∧ P' U H) := ⟨fun u U H hW z => ⟨h.1 u U H hW z.1, h'.1 u U H hW z.2⟩, fun u U H hv z => ⟨h.2 u U H hv z.1, h'.2 u U H hv z.2⟩⟩
abbrev qPcF (P : State → Heap → Prop) (D : va_G) (cs : qC) (M : qM) (N : Nat) (av : List Value) : Array Value → State → Prop := fun v U => qPc D cs M N av v U ∧ P U U.heap
/-- as qMet, with a fact P of the heap outside the model -/
abbrev qMetF (l : Launch) (P : State → Heap → Prop) (D : va_G) (cs : qC) (y : MethodName) (ws : List Cond) (rm : Room) (M : qM) (N : Nat) (av : List Value) (post : Option Value → qM → Nat → Prop) (mc ms : Nat) : Prop :=
  Met l y ws rm (qPcF P D cs M N av) (qQ D M N post) mc ms (qA M N)
variable {P : State → Heap → Prop}
theorem qPcF_blind {av : List Value} (hP : qSw P) : FrameBlind (qPcF P D cs M N av) := fun a U g mk q => ⟨qPc_blind a U g mk q.1, hP.2 U (U.calling g mk a) _ rfl q.2⟩
variable {x y : MethodName} {bytes : ByteArray} {maxL nL mc ms n index : Nat} {ret : Option FieldType} {rm : Room} {own host : String} {b : Nat} {As st0 : List Value} {post : Option Value → qM → Nat → Prop}
/-- what a call of a method that is found in a superclass wants of the words -/
def qNm (y : MethodName) (bytes : ByteArray) (maxL : Nat) (ret : Option FieldType) (n : Nat) : Prop := Cond.code y bytes maxL ret ∈ qG ∧ Cond.instanceMethod y ∈ qG ∧ Cond.initialized y.cls ∈ qG ∧ qYn y n
theorem f_pre (hI : qI D M0 s.heap M N H locs) (hK : qK D cs s) (hP : qSw P) (hp : P s H) : PreS s H (qPcF P D cs M N As) As :=
  ⟨qPcF_blind hP, fun U hU hW => ⟨(q_pre hI hK).2 U hU hW, hP.1 s U _ hW (by rw [hU]; exact hp)⟩⟩
theorem f_head {av : List Value} (hy : plainFor y = true)
    (body : ∀ (p : Program) (e : Env) (s : State) (m : MethodId) (below : List Frame) (meth : Method) (c : Code) (ls : Array Slot), p.tables.exec = Jvm.exec → c.code = bytes → meth.sig.returnType = ret → meth.locks = false → c.maxLocals = maxL → s.vm.findClass y.cls = some m.cls → meth.name = y.name → (∀ w ∈ qG, w.before av.toArray s = true) → qK D cs s → s.heap.size = N → P s s.heap → qI D M s.heap M N s.heap [] → lv_has ls maxL (lv_args 0 av) →
      W p l e rm s m av.toArray below meth c s.heap [] 0 0 (MQ below (qQ D M N post) av.toArray s mc ms (qA M N)) (F0 m 0 ls [])) (hlen : (lg_sl av).length ≤ maxL) :
    qMetF l P D cs y (qws y bytes maxL ret) rm M N av post mc ms := by
  refine va_MetF (cc := bytes) (maxL := maxL) (ret := ret) hy rfl ?_
  intro p e s m args below meth c s₁ B hml hv
  have hI := qI.start hv.1
  obtain ⟨⟨rfl, -, hK, hN⟩, hP⟩ := hv
  have hts := atoms_spec (ws := qws y bytes maxL ret) B.pre
  rw [lg_entry_eq]
  exact body p e s m below meth c _ B.exec B.bytes B.returns B.notSynchronized hml (findClass_of_methodNamed B.named) (name_of_methodNamed B.named B.method).1 (fun w h => hts w (List.mem_cons_of_mem _ h)) hK hN hP hI (lv_entry av hlen)
theorem f_runS (hx : p.tables.exec = Jvm.exec) (hb : c.code = cc) (hml : c.maxLocals = nL) (hown : s.vm.findClass own = some m.cls) (hg : ∀ w ∈ qG, w.before args s = true)
    (hM : qMetF l P D cs y (qws y bytes maxL ret) rm M N As post mc ms) (v : qSm y bytes maxL ret n) (hl : Cond.methodLink own index y ∈ qG) (hrc : rm.cells = mc) (hrs : rm.slots = ms) (hR : rm.frames + 1 ≤ R.frames ∧ 8 + (maxL + 11) + rm.locals ≤ R.locals)
    (hI : qI D M0 s.heap M N H locs) (hK : qK D cs s) (hP : qSw P) (hp : P s H)
    (hls : ls.size = nL) (hn : As.length = n) (hst : st0 = As.reverse ++ rest) (hcat : (rest.map fun v => v.category).sum ≤ 8) (hdg : decode cc pc = .ok (.invokestatic index, 3)) (hf : cells + mc ≤ R.cells ∧ slots + ms ≤ R.slots) :
    va_Run p l e R s m args below meth c H locs cells slots mc ms (F0 m pc ls st0) rest (qQ D M N post As.toArray) (qA M N) :=
  va_runS (As := As) (rest := rest) ⟨hx, hb, hml, hown, hg⟩ hM (va_cwS n hg (qG_wsS v hl) rfl hrc hrs v.2.2.2 hR) (f_pre hI hK hP hp) rfl hn hls hst (lv_room hcat) hdg hf
theorem f_runV (hx : p.tables.exec = Jvm.exec) (hb : c.code = cc) (hml : c.maxLocals = nL) (hown : s.vm.findClass own = some m.cls) (hg : ∀ w ∈ qG, w.before args s = true)
    (hM : qMetF l P D cs y (qws y bytes maxL ret) rm M N (.ref b :: As) post mc ms) (v : qVm y bytes maxL ret n) (hl : Cond.methodLink own index y ∈ qG) (hrc : rm.cells = mc) (hrs : rm.slots = ms) (hR : rm.frames + 1 ≤ R.frames ∧ 8 + (maxL + 11) + rm.locals ≤ R.locals)
    (hI : qI D M0 s.heap M N H locs) (hK : qK D cs s) (hP : qSw P) (hp : P s H) (hr : ∃ cell : Cell, H[b]? = some cell ∧ cell.vm.isStatics = false ∧ s.vm.findClass y.cls = some cell.cls)
    (hls : ls.size = nL) (hn : As.length = n) (hst : st0 = As.reverse ++ .ref b :: rest) (hcat : (rest.map fun v => v.category).sum ≤ 8) (hdg : decode cc pc = .ok (.invokevirtual index, 3)) (hf : cells + mc ≤ R.cells ∧ slots + ms ≤ R.slots) :
    va_Run p l e R s m args below meth c H locs cells slots mc ms (F0 m pc ls st0) rest (qQ D M N post (Value.ref b :: As).toArray) (qA M N) :=
  va_runV (As := As) (rest := rest) (C := y.cls) ⟨hx, hb, hml, hown, hg⟩ hM (cwV n hg (qG_wsV v hl) rfl hrc hrs ⟨rfl, v.2.2.2.2⟩ hR) ⟨qPcF_blind hP, hr, fun U hU hW => (f_pre (As := .ref b :: As) hI hK hP hp).2 U hU hW⟩ rfl hn hls hst (lv_room hcat) hdg hf
/-- a cell of the model, as a receiver -/
theorem qI.rc (hK : qK D cs s) (hI : qI D M0 s.heap M N H locs) (ci : Nat) {fs : List Value} {C : String} {T : u_T} {NN : Nat} (hMb : M b = some (.inr (ci, fs))) (hc : vwCl[ci]? = some (C, T, NN)) : ∃ cell : Cell, H[b]? = some cell ∧ cell.vm.isStatics = false ∧ s.vm.findClass C = some cell.cls := by
  obtain ⟨q', h1, cell, g1, g2, g3, -⟩ := hI.1 b _ hMb
  exact ⟨cell, g1, by rw [g3]; rfl, by rw [g2]; exact (hK.1.1 ci _ hc).2.1⟩
theorem f_runI (hx : p.tables.exec = Jvm.exec) (hb : c.code = cc) (hml : c.maxLocals = nL) (hown : s.vm.findClass own = some m.cls) (hg : ∀ w ∈ qG, w.before args s = true)
    (hM : qMetF l P D cs y (qws y bytes maxL none) rm M N (.ref b :: As) post mc ms) (v : qIm y bytes maxL n) (hl : Cond.methodLink own index y ∈ qG) (hrc : rm.cells = mc) (hrs : rm.slots = ms) (hR : rm.frames + 1 ≤ R.frames ∧ 8 + (maxL + 11) + rm.locals ≤ R.locals)
    (hI : qI D M0 s.heap M N H locs) (hK : qK D cs s) (hP : qSw P) (hp : P s H)
    (hls : ls.size = nL) (hn : As.length = n) (hst : st0 = As.reverse ++ .ref b :: rest) (hcat : (rest.map fun v => v.category).sum ≤ 8) (hdg : decode cc pc = .ok (.invokespecial index, 3)) (hf : cells + mc ≤ R.cells ∧ slots + ms ≤ R.slots) :
    va_Run p l e R s m args below meth c H locs cells slots mc ms (F0 m pc ls st0) rest (qQ D M N post (Value.ref b :: As).toArray) (qA M N) :=
  va_runI (As := As) (rest := rest) ⟨hx, hb, hml, hown, hg⟩ hM (cwI n hg (qws_good v.1) rfl hrc hrs (hg _ v.2.2.1) (hg _ hl) (hg _ v.2.1) v.2.2.2.1 v.2.2.2.2 hR) (f_pre (As := .ref b :: As) hI hK hP hp) rfl hn hls hst (lv_room hcat) hdg hf
theorem q_selPriv {C : String} {k : Nat} (hy : y.cls ≠ "java/lang/invoke/MethodHandle" ∧ y.cls ≠ "java/lang/invoke/VarHandle") (hins : (Cond.instantiable C k).before args s = true) (hsame : (Cond.sameMethod y.cls y.cls y.name y.desc).before args s = true) (hpriv : (Cond.privateMethod y).before args s = true) (hinst : (Cond.instanceMethod y).before args s = true) :
    (Cond.selects C y y).before args s = true := by
  obtain ⟨c, kc, hc, hk, -, -, -, -⟩ := Cond.instantiable_spec hins
  obtain ⟨cn, ck, r1, hcn, hck, hni, hf, hn1⟩ := Cond.sameMethod_found hsame
  obtain ⟨mk, methM, hnamed, hmethM, -, -⟩ := Cond.instanceMethod_spec hinst
  have hr : r1 = mk := Option.some.inj (hn1.symm.trans hnamed)
  subst hr
  have hcls : r1.cls = cn := Option.some.inj ((findClass_of_methodNamed hnamed).symm.trans hcn)
  have hsel : selectMethod {} s.vm c r1 = .method r1 := selectMethod_private hmethM (Cond.privateMethod_at hpriv r1 methM hnamed hmethM)
  simp only [Cond.before, Cond.holds, Cond.value, hc, hf, hnamed, hsel, hcls, hck]
  simp
  exact hni
/-- a call, on a StringBuilder, of a method that is found in its superclass -/
theorem f_runU (hx : p.tables.exec = Jvm.exec) (hb : c.code = cc) (hml : c.maxLocals = nL) (hown : s.vm.findClass own = some m.cls) (hg : ∀ w ∈ qG, w.before args s = true)
    (hM : qMetF l P D cs y (qws y bytes maxL ret) rm M N (.ref b :: As) post mc ms) (v : qNm y bytes maxL ret n) (hl : Cond.methodLink own index x ∈ qG) (hrc : rm.cells = mc) (hrs : rm.slots = ms) (hR : rm.frames + 1 ≤ R.frames ∧ 8 + (maxL + 11) + rm.locals ≤ R.locals)
    (hx0 : x.cls ≠ "java/lang/invoke/MethodHandle" ∧ x.cls ≠ "java/lang/invoke/VarHandle") (hxd : x.desc = y.desc) (hsm : Cond.sameMethod x.cls x.cls x.name x.desc ∈ qG) (hdx : va_Decl s ⟨x.cls, x.name, x.desc⟩) (hsel : (Cond.selects "java/lang/StringBuilder" x y).before args s = true)
    (hI : qI D M0 s.heap M N H locs) (hK : qK D cs s) (hP : qSw P) (hp : P s H) {fs : List Value} (hMb : M b = some (.inr (1, fs)))
    (hls : ls.size = nL) (hn : As.length = n) (hst : st0 = As.reverse ++ .ref b :: rest) (hcat : (rest.map fun v => v.category).sum ≤ 8) (hdg : decode cc pc = .ok (.invokevirtual index, 3)) (hf : cells + mc ≤ R.cells ∧ slots + ms ≤ R.slots) :
    va_Run p l e R s m args below meth c H locs cells slots mc ms (F0 m pc ls st0) rest (qQ D M N post (Value.ref b :: As).toArray) (qA M N) := by
  refine va_runU (x := x) (owner := x.cls) (C := "java/lang/StringBuilder") (As := As) (rest := rest) ⟨hx, hb, hml, hown, hg⟩ hM ⟨⟨hrc, hrs, hR.1, hR.2, pay_in hg (qws_good v.1), List.mem_cons_self⟩, hg _ v.1, hg _ v.2.2.1, hx0, fun sig h => ?_, hg _ hl, hg _ hsm, hdx, hsel, hg _ v.2.1⟩ ⟨qPcF_blind hP, hI.rc hK 1 hMb rfl, fun U hU hW => (f_pre (As := .ref b :: As) hI hK hP hp).2 U hU hW⟩ rfl hn hls hst (lv_room hcat) hdg hf
  have h2 := v.2.2.2.2.2
  rw [← hxd, h] at h2
  exact (Option.some.inj h2).symm
/-- super.m(..) in StringBuilder -/
theorem f_runSU (hx : p.tables.exec = Jvm.exec) (hb : c.code = cc) (hml : c.maxLocals = nL) (hown : s.vm.findClass "java/lang/StringBuilder" = some m.cls) (hg : ∀ w ∈ qG, w.before args s = true)
    (hM : qMetF l P D cs y (qws y bytes maxL ret) rm M N (.ref b :: As) post mc ms) (v : qNm y bytes maxL ret n) (hl : Cond.methodLink "java/lang/StringBuilder" index y ∈ qG) (hrc : rm.cells = mc) (hrs : rm.slots = ms) (hR : rm.frames + 1 ≤ R.frames ∧ 8 + (maxL + 11) + rm.locals ≤ R.locals)
    (hsm : Cond.sameMethod y.cls y.cls y.name y.desc ∈ qG) (hsup : Cond.superclass "java/lang/StringBuilder" y.cls ∈ qG) (hno : y.name ≠ "<init>")
    (hI : qI D M0 s.heap M N H locs) (hK : qK D cs s) (hP : qSw P) (hp : P s H) {fs : List Value} (hMb : M b = some (.inr (1, fs)))
    (hls : ls.size = nL) (hn : As.length = n) (hst : st0 = As.reverse ++ .ref b :: rest) (hcat : (rest.map fun v => v.category).sum ≤ 8) (hdg : decode cc pc = .ok (.invokespecial index, 3)) (hf : cells + mc ≤ R.cells ∧ slots + ms ≤ R.slots) :
    va_Run p l e R s m args below meth c H locs cells slots mc ms (F0 m pc ls st0) rest (qQ D M N post (Value.ref b :: As).toArray) (qA M N) := by
  refine va_runSU (C := "java/lang/StringBuilder") (As := As) (rest := rest) (hK.1.1 1 _ rfl).2 ⟨hx, hb, hml, hown, hg⟩ hM ⟨⟨hrc, hrs, hR.1, hR.2, pay_in hg (qws_good v.1), List.mem_cons_self⟩, hg _ hl, hg _ hsm, hg _ hsup, hg _ v.2.1, hg _ v.2.2.1, hg _ v.1, hno, fun sig h => ?_⟩ ⟨qPcF_blind hP, hI.rc hK 1 hMb rfl, fun U hU hW => (f_pre (As := .ref b :: As) hI hK hP hp).2 U hU hW⟩ rfl hn hls hst (lv_room hcat) hdg hf
  have h2 := v.2.2.2.2.2
  rw [h] at h2
  exact (Option.some.inj h2).symm
theorem q_nret {av : Array Value} {N0 : Nat} {v : Value} {ty : FieldType} (hx : p.tables.exec = Jvm.exec) (hb : c.code = cc) (hr : meth.sig.returnType = some ty) (ht : (∃ rt, ty = .object rt) ∨ ∃ et, ty = .array et) (hv : v = .null ∨ ∃ a, v = .ref a) (hlocks : meth.locks = false) (hN : s.heap.size = N0) (hI : qI D M0 s.heap M N H locs) (hp : post (some v) M N) (hdg : decode cc pc = .ok (.areturn, 1)) :
    W p l e R s m av below meth c H locs cells slots (MQ below (qQ D M0 N0 post) av s cells slots (qA M0 N0)) (F0 m pc ls [v]) :=
  W.aret (v := v) hx hb hr ht hv (fun t ht hW => hI.end hN hp ht) (by rw [← hN]; exact hI.2.2.2.2.2) hdg hlocks
end QB
