/-! ORDINAL: the one method of an unsaid class, inline -/
theorem wq_ord_link : Cond.methodLink RX10 330 ⟨RX9, "ordinal", "()I"⟩ ∈ qG := (qT3_in 115 (by decide +kernel) rfl)
theorem wq_ord_same : Cond.sameMethod RX9 RJx29ce0 "ordinal" "()I" ∈ qG := (qT3_in 116 (by decide +kernel) rfl)
theorem wq_ord_sel : Cond.selects RX9 ⟨RX9, "ordinal", "()I"⟩ yJx29ce0_ordinal_8abf5 ∈ qG := (qT3_in 118 (by decide +kernel) rfl)
theorem wq_ord_inst : Cond.instanceMethod yJx29ce0_ordinal_8abf5 ∈ qG := (qT3_in 119 (by decide +kernel) rfl)
theorem wq_ord_code : Cond.code yJx29ce0_ordinal_8abf5 cJx29ce0_ordinal_8abf5 1 (some .int) ∈ qG := (qT3_in 120 rfl rfl)
theorem wq_ord_field : Cond.fieldLink RJx29ce0 7 RJx29ce0 "ordinal" "I" ∈ qG := (qT6_in 23 (by decide +kernel) rfl)
theorem dq_ord0 : decode cJx29ce0_ordinal_8abf5 0 = .ok (.aload_n 0, 1) := by decide +kernel
theorem dq_ord1 : decode cJx29ce0_ordinal_8abf5 1 = .ok (.getfield 7, 3) := by decide +kernel
theorem dq_ord4 : decode cJx29ce0_ordinal_8abf5 4 = .ok (.ireturn, 1) := by decide +kernel
theorem pn_ord : plainName RJx29ce0 = true := by decide +kernel
section QO
variable {p : Program} {l : Launch} {e : Env} {R : Room} {s : State} {m : MethodId} {args : Array Value} {below : List Frame} {meth : Method} {c : Code} {H : Heap} {locs : List Loc} {cells slots : Nat} {Q : State → Prop}
variable {cc : ByteArray} {pc : Nat} {ls : Array Slot} {rest : List Value}
theorem z_ordinal {A : Nat → Prop} (hexec : p.tables.exec = Jvm.exec) (hb : c.code = cc) (hml : ls.size = c.maxLocals) (hown : s.vm.findClass RX10 = some m.cls) (hg : ∀ w ∈ qG, w.before args s = true) {k : Int32} {v : Nat} (hO : va_O RX9 v A s s.heap) (hE : va_OF RJx29ce0 "ordinal" "I" (.int k) v A s s.heap) (hS : va_S A s.heap H locs) (hrest : (rest.map fun v => v.category).sum ≤ 8) (hR : 1 ≤ R.frames ∧ 20 ≤ R.locals) (hdg : decode cc pc = .ok (.invokevirtual 330, 3))
    (kk : W p l e R s m args below meth c H locs cells slots Q (F0 m (pc + 3) ls (.int k :: rest))) : W p l e R s m args below meth c H locs cells slots Q (F0 m pc ls (.ref v :: rest)) := by
  intro T hT X
  obtain ⟨cell, h1, h2, h3, -⟩ := hO.kept hS.2.1
  obtain ⟨cf, kf, i, f, cell2, g1, g2, g3, g4, g5, -⟩ := hE.kept hS.2.1
  cases h1.symm.trans g3
  obtain ⟨r0, r, hn, hrm, hstR, hsigR⟩ := va_Decl.of (hg _ wq_ord_inst) (hg _ wq_ord_code)
  have hsame := hg _ wq_ord_same
  obtain ⟨cn, ck, r1, hcn, hck, hni, hf, hn1⟩ := Cond.sameMethod_found hsame
  cases hn.symm.trans hn1
  obtain ⟨mk, methM, hnamed, hmethM, -, habM⟩ := Cond.instanceMethod_spec (hg _ wq_ord_inst)
  obtain ⟨methM', cM, hmethM', hcodeM', hbytesM, hlocalsM, hretM, hlockM, -, -⟩ := Cond.code_spec hnamed (hg _ wq_ord_code)
  cases hmethM.symm.trans hmethM'
  obtain ⟨c2, r2, m2, q1, q2, q3, q4, kP, hkP, hkPi⟩ := Cond.selects_spec (hg _ wq_ord_sel)
  cases h3.symm.trans q1
  cases hf.symm.trans q2
  cases hnamed.symm.trans q3
  have hselP : selectMethod e.platform s.vm cell.cls r0 = .method mk := by rw [Launch.admits_selectMethod X.admits]; exact q4
  obtain ⟨vm₁, X₁, hstep₁⟩ := X.invokevirtualUp hexec hown (hg _ wq_ord_link) hsame (by decide) hn hrm hstR (a := v) (cell := cell) (by rw [hT]; exact h1)
    (fun z h => by rw [h] at h2; cases h2) hselP hmethM habM hkP hkPi (g := F0 m pc ls (.ref v :: rest)) rfl (argsL := []) (rest := rest) (by
      have h9 : parseMethodDescriptor "()I" = some r.sig := hsigR
      have h8 : (parseMethodDescriptor "()I").map (fun d => d.parameters.length) = some 0 := by decide +kernel
      rw [h9] at h8
      exact (Option.some.inj h8).symm) rfl (by rw [hb]; exact hdg)
  have hW₁ : s.WarmedH vm₁ := X₁.warmed
  have hpl : e.platform.magicAccessors = ({} : Platform).magicAccessors := by rw [X.admits.platform]
  obtain ⟨ci', cfl, k', i', f', hi', hlinks, hright⟩ := Cond.fieldLink_spec (findClass_of_methodNamed hnamed) (hg _ wq_ord_field) e.platform hpl
  cases g1.symm.trans hi'
  obtain ⟨hk, hfi0⟩ := State.fieldFound?_spec g1
  obtain ⟨vm', hgives, hW', hready, hfi⟩ := State.fieldEntry (e := e) X₁.warmed hlinks hright hk hfi0
  have X₂ := X₁.noted hW'
  obtain ⟨t, a1, b1⟩ := kk ((T.setVm vm₁).setVm vm') hT X₂
  refine ⟨t, hstep₁ _ (fun acts => ?_), b1⟩
  have hm₁ : (T.setVm vm₁).vm.method? mk = some methM := by show vm₁.method? mk = _; rw [hW₁.alike.method?]; exact hmethM
  have hroom := X₁.notFull (g := F0 m pc ls rest) (vars := cM.maxLocals) hml hR.1 (by rw [hlocalsM]; show 2 * 0 + (rest.map fun v => v.category).sum + (1 + 11) ≤ R.locals; omega)
  refine Steps.intGetterInline (s := T.setVm vm₁) (g := F0 m pc ls rest) (code := cM) (index := 7) (cell := cell) (v := k) X₁.here hexec acts hm₁ hcodeM' hlockM ?_ hretM hlocalsM (by rw [hbytesM]; exact dq_ord0) (by rw [hbytesM]; exact dq_ord1) (by rw [hbytesM]; exact dq_ord4) hroom (by rw [hb]; exact hdg) (hW₁.alike.symm.trans hW'.alike) hgives hready hfi g2 (by show T.heap[v]? = _; rw [hT]; exact h1) g4 g5 a1
  intro k2 hk2
  obtain ⟨kM, hkM, hnM⟩ := className_of_methodNamed hnamed
  obtain ⟨k₁, hk₁, he⟩ := hW₁.alike.2.2 _ _ hkM
  have e9 : k2 = k₁ := Option.some.inj (hk2.symm.trans hk₁)
  have e8 : k2.name = RJx29ce0 := by rw [e9, he]; exact hnM
  rw [e8, pn_ord]
  rfl
end QO
