/-! making cells -/
section QN
variable {p : Program} {l : Launch} {e : Env} {R : Room} {s : State} {m : MethodId} {args : Array Value} {below : List Frame} {meth : Method} {c : Code} {H : Heap} {locs : List Loc} {cells slots : Nat} {Q : State → Prop}
variable {cc : ByteArray} {pc : Nat} {ls : Array Slot} {rest : List Value} {D : va_G} {cs : qC} {M0 M : qM} {N : Nat}
theorem q_new (hexec : p.tables.exec = Jvm.exec) (hb : c.code = cc) {own C : String} {T : u_T} {NN index : Nat} (ci : Nat) (hg : ∀ w ∈ qG, w.before args s = true) (hin : ∀ w ∈ u_ws C T NN, w ∈ qG) {ty : Nat → FieldType} (hty : ∀ k, k < NN → parseFieldDescriptor (T k).2.2.1 = some (ty k)) (hown : s.vm.findClass own = some m.cls) (hcl : Cond.classLink own index C ∈ qG) (hinst : Cond.instantiable C NN ∈ qG) (hini : Cond.initialized C ∈ qG)
    (hK : qK D cs s) (hI : qI D M0 s.heap M N H locs) (hc : vwCl[ci]? = some (C, T, NN)) (fs : List Value) (hfs : ∀ j, j < NN → defaultValue (ty j) = vp_V fs j) (hcells : cells + 1 ≤ R.cells) (hslots : slots + NN ≤ R.slots) (hdg : decode cc pc = .ok (.new index, 3))
    (kk : ∀ H1 : Heap, qI D M0 s.heap (qUp M N (.inr (ci, fs))) (N + 1) H1 locs → W p l e R s m args below meth c H1 locs (cells + 1) (slots + NN) Q (F0 m (pc + 3) ls (.ref N :: rest))) : W p l e R s m args below meth c H locs cells slots Q (F0 m pc ls rest) := by
  have hKn := hK.1.1 ci _ hc
  refine W.newcK hexec hb hown (hg _ hcl) (hg _ hinst) (hg _ hini) rfl hdg hcells hslots hKn.2.1 hI.2.1 fun H1 kC hkC e1 z1 o1 => ?_
  exact kk H1 (hI.push ⟨_, hc, (u_born ty hg hin hKn hkC e1 hty).to hfs⟩ (by rw [z1, hI.2.1]) (fun q hq => o1 q (by rw [← hI.2.1]; exact hq)))
theorem q_zeros (cI : ClassId) (k : Nat) : arrV cI k (fun _ => defaultValue .int) = vp_cell cI (k, .inl (fun j => (List.replicate k (0 : Int32)).getD j 0)) := by
  rw [vp_cell_i]
  congr 1
  funext j
  show Value.int 0 = _
  congr 1
  simp only [List.getD, List.getElem?_replicate]
  split <;> rfl
theorem q_newI (hexec : p.tables.exec = Jvm.exec) (hb : c.code = cc) (hg : ∀ w ∈ qG, w.before args s = true) (harr : Cond.arrayClass .int ∈ qG) (hK : qK D cs s) (hI : qI D M0 s.heap M N H locs) {n : Int32} (k : Nat) (hn : ¬ n < 0) (hk : n.toNatClampNeg = k) (hbytes : k * componentBytes .int ≤ 536870912) (hcells : cells + 1 ≤ R.cells) (hslots : slots + k ≤ R.slots) (hdg : decode cc pc = .ok (.newarray .int, 2))
    (kk : ∀ H1 : Heap, qI D M0 s.heap (qUp M N (qrow (cs 0) (List.replicate k 0))) (N + 1) H1 locs → W p l e R s m args below meth c H1 locs (cells + 1) (slots + k) Q (F0 m (pc + 2) ls (.ref N :: rest))) : W p l e R s m args below meth c H locs cells slots Q (F0 m pc ls (.int n :: rest)) := by
  refine va_newaK hexec hb (atype := .int) (hg _ harr) rfl hdg rfl hn hk hbytes hcells hslots hI.2.1 fun H1 cA e1 z1 o1 hAr hNm => ?_
  have hcA : cA = cs 0 := Option.some.inj (hNm.symm.trans (hK.1.2 0 _ rfl).2)
  subst hcA
  refine kk H1 (hI.push ?_ (by rw [z1, hI.2.1]) (fun q hq => o1 q (by rw [← hI.2.1]; exact hq)))
  show H1[N]? = some (vp_cell _ _)
  rw [e1]
  rw [List.length_replicate]
  exact congrArg some (q_zeros _ k)
theorem q_newQ (hexec : p.tables.exec = Jvm.exec) (hb : c.code = cc) (hg : ∀ w ∈ qG, w.before args s = true) {own C : String} {index : Nat} (hown : s.vm.findClass own = some m.cls) (hcl : Cond.classLink own index C ∈ qG) (hover : va_Nw (.arrayOver (.object C)) s) (hK : qK D cs s) (hI : qI D M0 s.heap M N H locs) (t0 : Nat) (ht : (qT cs)[t0]? = some (cs t0, .object C)) {n : Int32} (k : Nat) (hn : ¬ n < 0) (hk : n.toNatClampNeg = k) (hbytes : n.toNatClampNeg * 4 ≤ 536870912) (hcells : cells + 1 ≤ R.cells) (hslots : slots + k ≤ R.slots) (hdg : decode cc pc = .ok (.anewarray index, 3))
    (kk : ∀ H1 : Heap, qI D M0 s.heap (qUp M N (.inl (cs t0, k, .inr (.inr (.inr (.inr (fun _ => none))))))) (N + 1) H1 locs → W p l e R s m args below meth c H1 locs (cells + 1) (slots + k) Q (F0 m (pc + 3) ls (.ref N :: rest))) : W p l e R s m args below meth c H locs cells slots Q (F0 m pc ls (.int n :: rest)) := by
  subst hk
  refine W.anew hexec hb hown (hg _ hcl) (va_AO.use hover) rfl hdg rfl hn hbytes hcells hslots fun cA kA comp f1 f2 f3 f4 => ?_
  obtain ⟨kA', comp', g1, g2, g3, g4⟩ := (hK.1.2 t0 _ ht).2
  have hcA : cA = cs t0 := Option.some.inj (f1.symm.trans g4)
  subst hcA
  have hN := hI.2.1
  rw [hN]
  refine kk _ (hI.push ?_ (by simp) (fun q hq => by rw [Array.getElem?_push, if_neg (Nat.ne_of_lt hq)]))
  show (H.push _)[N]? = some (vp_cell _ _)
  rw [← hN, Array.getElem?_push_size, vp_cell_q, ← arrV_new]
  rfl
theorem q_objInit (hexec : p.tables.exec = Jvm.exec) (hb : c.code = cc) (hml : c.maxLocals = ls.size) (hg : ∀ w ∈ qG, w.before args s = true) {own : String} {idx : Nat} (hown : s.vm.findClass own = some m.cls) (hl : Cond.methodLink own idx Lib.objectInit ∈ qG) (h2 : Cond.instanceMethod Lib.objectInit ∈ qG) (h3 : Cond.code Lib.objectInit ⟨#[0xb1]⟩ 1 none ∈ qG) {a : Nat} (hdg : decode cc pc = .ok (.invokespecial idx, 3)) (hf : 1 ≤ R.frames) (hlo : 12 ≤ R.locals)
    (kk : W p l e R s m args below meth c H locs cells slots Q (F0 m (pc + 3) ls [])) : W p l e R s m args below meth c H locs cells slots Q (F0 m pc ls [.ref a]) :=
  W.objInit hexec hb hown (hg _ hl) (hg _ h2) (hg _ h3) rfl hml.symm rfl hdg hf hlo kk
end QN
theorem wo_inst : Cond.instanceMethod Lib.objectInit ∈ qG := (qT1_in 31 (by decide +kernel) rfl)
theorem wo_code : Cond.code Lib.objectInit ⟨#[0xb1]⟩ 1 none ∈ qG := (qT1_in 32 rfl rfl)
theorem wi_X10 : Cond.initialized RX10 ∈ qG := (qT1_in 1 (by decide +kernel) rfl)
theorem wi_X5 : Cond.initialized RX5 ∈ qG := (qT1_in 2 (by decide +kernel) rfl)
theorem wi_X1 : Cond.initialized RX1 ∈ qG := (qT1_in 3 (by decide +kernel) rfl)
theorem wi_X8 : Cond.initialized RX8 ∈ qG := (qT1_in 4 (by decide +kernel) rfl)
theorem wi_X7 : Cond.initialized RX7 ∈ qG := (qT1_in 5 (by decide +kernel) rfl)
theorem wi_X2 : Cond.initialized RX2 ∈ qG := (qT1_in 6 (by decide +kernel) rfl)
theorem wi_X3 : Cond.initialized RX3 ∈ qG := (qT1_in 7 (by decide +kernel) rfl)
theorem wi_X4 : Cond.initialized RX4 ∈ qG := (qT1_in 8 (by decide +kernel) rfl)
theorem wi_X6 : Cond.initialized RX6 ∈ qG := (qT1_in 9 (by decide +kernel) rfl)
theorem wi_X0 : Cond.initialized RX0 ∈ qG := (qT1_in 15 (by decide +kernel) rfl)
theorem wn_X10 : Cond.instantiable RX10 9 ∈ qG := (qT1_in 26 (by decide +kernel) rfl)
theorem wo_X10 : Cond.methodLink RX10 1 Lib.objectInit ∈ qG := (qT1_in 30 (by decide +kernel) rfl)
theorem wn_X5 : Cond.instantiable RX5 6 ∈ qG := (qT1_in 34 (by decide +kernel) rfl)
theorem wo_X5 : Cond.methodLink RX5 3 Lib.objectInit ∈ qG := (qT1_in 38 (by decide +kernel) rfl)
theorem wn_X1 : Cond.instantiable RX1 3 ∈ qG := (qT1_in 40 (by decide +kernel) rfl)
theorem wo_X1 : Cond.methodLink RX1 3 Lib.objectInit ∈ qG := (qT1_in 44 (by decide +kernel) rfl)
theorem wa_int : Cond.arrayClass .int ∈ qG := (qT1_in 59 (by decide +kernel) rfl)
theorem wn_X8 : Cond.instantiable RX8 4 ∈ qG := (qT1_in 61 (by decide +kernel) rfl)
theorem wo_X8 : Cond.methodLink RX8 3 Lib.objectInit ∈ qG := (qT1_in 65 (by decide +kernel) rfl)
theorem wn_X7 : Cond.instantiable RX7 5 ∈ qG := (qT1_in 81 (by decide +kernel) rfl)
theorem wo_X7 : Cond.methodLink RX7 3 Lib.objectInit ∈ qG := (qT1_in 85 (by decide +kernel) rfl)
theorem wn_X2 : Cond.instantiable RX2 3 ∈ qG := (qT1_in 150 (by decide +kernel) rfl)
theorem wo_X2 : Cond.methodLink RX2 3 Lib.objectInit ∈ qG := (qT1_in 154 (by decide +kernel) rfl)
theorem wn_X3 : Cond.instantiable RX3 7 ∈ qG := (qT1_in 170 (by decide +kernel) rfl)
theorem wo_X3 : Cond.methodLink RX3 3 Lib.objectInit ∈ qG := (qT1_in 174 (by decide +kernel) rfl)
theorem wn_X4 : Cond.instantiable RX4 2 ∈ qG := (qT1_in 205 (by decide +kernel) rfl)
theorem wo_X4 : Cond.methodLink RX4 3 Lib.objectInit ∈ qG := (qT1_in 209 (by decide +kernel) rfl)
theorem wn_X6 : Cond.instantiable RX6 4 ∈ qG := (qT1_in 219 (by decide +kernel) rfl)
theorem wo_X6 : Cond.methodLink RX6 3 Lib.objectInit ∈ qG := (qT1_in 223 (by decide +kernel) rfl)
theorem wa_byte : Cond.arrayClass .byte ∈ qG := (qT5_in 53 (by decide +kernel) rfl)
theorem wa_long : Cond.arrayClass .long ∈ qG := (qT6_in 12 (by decide +kernel) rfl)
