section QH
variable {l : Launch} {ret : Option FieldType} {y : MethodName} {bytes : ByteArray} {maxL mc ms N : Nat} {rm : Room} {D : va_G} {cs : qC} {M : qM} {post : Option Value → qM → Nat → Prop}
/-- .. of a class that the machine has entries for -/
theorem q_headF {av : List Value} (hy : plainFor y = true)
    (body : ∀ (p : Program) (e : Env) (s : State) (m : MethodId) (below : List Frame) (meth : Method) (c : Code) (ls : Array Slot), p.tables.exec = Jvm.exec → c.code = bytes → meth.sig.returnType = ret → meth.locks = false → c.maxLocals = maxL → s.vm.findClass y.cls = some m.cls → meth.name = y.name → (∀ w ∈ qG, w.before av.toArray s = true) → qK D cs s → s.heap.size = N → qI D M s.heap M N s.heap [] → lv_has ls maxL (lv_args 0 av) →
      W p l e rm s m av.toArray below meth c s.heap [] 0 0 (MQ below (qQ D M N post) av.toArray s mc ms (qA M N)) (F0 m 0 ls [])) (hlen : (lg_sl av).length ≤ maxL) :
    qMet l D cs y (qws y bytes maxL ret) rm M N av post mc ms := by
  refine va_MetF (cc := bytes) (maxL := maxL) (ret := ret) hy rfl ?_
  intro p e s m args below meth c s₁ B hml hv
  have hI := qI.start hv
  obtain ⟨rfl, -, hK, hN⟩ := hv
  have hts := atoms_spec (ws := qws y bytes maxL ret) B.pre
  rw [lg_entry_eq]
  exact body p e s m below meth c _ B.exec B.bytes B.returns B.notSynchronized hml (findClass_of_methodNamed B.named) (name_of_methodNamed B.named B.method).1 (fun w h => hts w (List.mem_cons_of_mem _ h)) hK hN hI (lv_entry av hlen)
end QH

theorem v_Jxe99ae_isNaN_b9ae7 : qSm yJxe99ae_isNaN_b9ae7 cJxe99ae_isNaN_b9ae7 2 (some .boolean) 1 := ⟨(qT4_in 58 rfl rfl), (qT4_in 57 (by decide +kernel) rfl), (qT1_in 17 (by decide +kernel) rfl), ⟨by decide +kernel, by decide +kernel, by decide +kernel⟩⟩
theorem v_Jxe99ae_doubleToLongBits_ccdee : qSm yJxe99ae_doubleToLongBits_ccdee cJxe99ae_doubleToLongBits_ccdee 2 (some .long) 1 := ⟨(qT4_in 55 rfl rfl), (qT4_in 54 (by decide +kernel) rfl), (qT1_in 17 (by decide +kernel) rfl), ⟨by decide +kernel, by decide +kernel, by decide +kernel⟩⟩
theorem v_Jxf58ca_isNaN_12338 : qSm yJxf58ca_isNaN_12338 cJxf58ca_isNaN_12338 1 (some .boolean) 1 := ⟨(qT4_in 77 rfl rfl), (qT4_in 76 (by decide +kernel) rfl), (qT1_in 18 (by decide +kernel) rfl), ⟨by decide +kernel, by decide +kernel, by decide +kernel⟩⟩
theorem v_Jxf58ca_floatToIntBits_5c35a : qSm yJxf58ca_floatToIntBits_5c35a cJxf58ca_floatToIntBits_5c35a 1 (some .int) 1 := ⟨(qT4_in 74 rfl rfl), (qT4_in 73 (by decide +kernel) rfl), (qT1_in 18 (by decide +kernel) rfl), ⟨by decide +kernel, by decide +kernel, by decide +kernel⟩⟩
theorem wl_Jxe99ae_122 : Cond.methodLink RJxe99ae 122 yJxe99ae_isNaN_b9ae7 ∈ qG := (qT4_in 56 (by decide +kernel) rfl)
theorem wl_Jxf58ca_59 : Cond.methodLink RJxf58ca 59 yJxf58ca_isNaN_12338 ∈ qG := (qT4_in 75 (by decide +kernel) rfl)
theorem dJxe99ae_isNaN_b9ae7_0 : decode cJxe99ae_isNaN_b9ae7 0 = .ok (.dload_n 0, 1) := by decide +kernel
theorem dJxe99ae_isNaN_b9ae7_1 : decode cJxe99ae_isNaN_b9ae7 1 = .ok (.dload_n 0, 1) := by decide +kernel
theorem dJxe99ae_isNaN_b9ae7_2 : decode cJxe99ae_isNaN_b9ae7 2 = .ok (.dcmp .l, 1) := by decide +kernel
theorem dJxe99ae_isNaN_b9ae7_3 : decode cJxe99ae_isNaN_b9ae7 3 = .ok (.ifCond .eq 7, 3) := by decide +kernel
theorem dJxe99ae_isNaN_b9ae7_6 : decode cJxe99ae_isNaN_b9ae7 6 = .ok (.iconst 1, 1) := by decide +kernel
theorem dJxe99ae_isNaN_b9ae7_7 : decode cJxe99ae_isNaN_b9ae7 7 = .ok (.goto 4, 3) := by decide +kernel
theorem dJxe99ae_isNaN_b9ae7_10 : decode cJxe99ae_isNaN_b9ae7 10 = .ok (.iconst 0, 1) := by decide +kernel
theorem dJxe99ae_isNaN_b9ae7_11 : decode cJxe99ae_isNaN_b9ae7 11 = .ok (.ireturn, 1) := by decide +kernel
theorem dJxe99ae_doubleToLongBits_ccdee_0 : decode cJxe99ae_doubleToLongBits_ccdee 0 = .ok (.dload_n 0, 1) := by decide +kernel
theorem dJxe99ae_doubleToLongBits_ccdee_1 : decode cJxe99ae_doubleToLongBits_ccdee 1 = .ok (.invokestatic 122, 3) := by decide +kernel
theorem dJxe99ae_doubleToLongBits_ccdee_4 : decode cJxe99ae_doubleToLongBits_ccdee 4 = .ok (.ifCond .ne 8, 3) := by decide +kernel
theorem dJxe99ae_doubleToLongBits_ccdee_7 : decode cJxe99ae_doubleToLongBits_ccdee 7 = .ok (.dload_n 0, 1) := by decide +kernel
theorem dJxe99ae_doubleToLongBits_ccdee_8 : decode cJxe99ae_doubleToLongBits_ccdee 8 = .ok (.invokestatic 134, 3) := by decide +kernel
theorem dJxe99ae_doubleToLongBits_ccdee_11 : decode cJxe99ae_doubleToLongBits_ccdee 11 = .ok (.lreturn, 1) := by decide +kernel
theorem dJxe99ae_doubleToLongBits_ccdee_12 : decode cJxe99ae_doubleToLongBits_ccdee 12 = .ok (.ldc2_w 137, 3) := by decide +kernel
theorem dJxe99ae_doubleToLongBits_ccdee_15 : decode cJxe99ae_doubleToLongBits_ccdee 15 = .ok (.lreturn, 1) := by decide +kernel
theorem dJxf58ca_isNaN_12338_0 : decode cJxf58ca_isNaN_12338 0 = .ok (.fload_n 0, 1) := by decide +kernel
theorem dJxf58ca_isNaN_12338_1 : decode cJxf58ca_isNaN_12338 1 = .ok (.fload_n 0, 1) := by decide +kernel
theorem dJxf58ca_isNaN_12338_2 : decode cJxf58ca_isNaN_12338 2 = .ok (.fcmp .l, 1) := by decide +kernel
theorem dJxf58ca_isNaN_12338_3 : decode cJxf58ca_isNaN_12338 3 = .ok (.ifCond .eq 7, 3) := by decide +kernel
theorem dJxf58ca_isNaN_12338_6 : decode cJxf58ca_isNaN_12338 6 = .ok (.iconst 1, 1) := by decide +kernel
theorem dJxf58ca_isNaN_12338_7 : decode cJxf58ca_isNaN_12338 7 = .ok (.goto 4, 3) := by decide +kernel
theorem dJxf58ca_isNaN_12338_10 : decode cJxf58ca_isNaN_12338 10 = .ok (.iconst 0, 1) := by decide +kernel
theorem dJxf58ca_isNaN_12338_11 : decode cJxf58ca_isNaN_12338 11 = .ok (.ireturn, 1) := by decide +kernel
theorem dJxf58ca_floatToIntBits_5c35a_0 : decode cJxf58ca_floatToIntBits_5c35a 0 = .ok (.fload_n 0, 1) := by decide +kernel
theorem dJxf58ca_floatToIntBits_5c35a_1 : decode cJxf58ca_floatToIntBits_5c35a 1 = .ok (.invokestatic 59, 3) := by decide +kernel
theorem dJxf58ca_floatToIntBits_5c35a_4 : decode cJxf58ca_floatToIntBits_5c35a 4 = .ok (.ifCond .ne 8, 3) := by decide +kernel
theorem dJxf58ca_floatToIntBits_5c35a_7 : decode cJxf58ca_floatToIntBits_5c35a 7 = .ok (.fload_n 0, 1) := by decide +kernel
theorem dJxf58ca_floatToIntBits_5c35a_8 : decode cJxf58ca_floatToIntBits_5c35a 8 = .ok (.invokestatic 74, 3) := by decide +kernel
theorem dJxf58ca_floatToIntBits_5c35a_11 : decode cJxf58ca_floatToIntBits_5c35a 11 = .ok (.ireturn, 1) := by decide +kernel
theorem dJxf58ca_floatToIntBits_5c35a_12 : decode cJxf58ca_floatToIntBits_5c35a 12 = .ok (.ldc 77, 2) := by decide +kernel
theorem dJxf58ca_floatToIntBits_5c35a_14 : decode cJxf58ca_floatToIntBits_5c35a 14 = .ok (.ireturn, 1) := by decide +kernel
theorem wr_vn_d2l : Cond.native ⟨"java/lang/Double", "doubleToRawLongBits", "(D)J"⟩ ∈ qG ∧ Cond.static ⟨"java/lang/Double", "doubleToRawLongBits", "(D)J"⟩ ∈ qG ∧ Cond.initialized "java/lang/Double" ∈ qG := ⟨(qT4_in 61 (by decide +kernel) rfl), (qT4_in 60 (by decide +kernel) rfl), (qT1_in 17 (by decide +kernel) rfl)⟩
theorem wr_vn_f2i : Cond.native ⟨"java/lang/Float", "floatToRawIntBits", "(F)I"⟩ ∈ qG ∧ Cond.static ⟨"java/lang/Float", "floatToRawIntBits", "(F)I"⟩ ∈ qG ∧ Cond.initialized "java/lang/Float" ∈ qG := ⟨(qT4_in 80 (by decide +kernel) rfl), (qT4_in 79 (by decide +kernel) rfl), (qT1_in 18 (by decide +kernel) rfl)⟩
theorem wk_L_56 : Cond.constantLong RL 56 31 ∈ qG := (qT4_in 48 (by decide +kernel) rfl)
theorem wl_Jxe99ae_134 : Cond.methodLink RJxe99ae 134 ⟨"java/lang/Double", "doubleToRawLongBits", "(D)J"⟩ ∈ qG := (qT4_in 59 (by decide +kernel) rfl)
theorem wk_Jxe99ae_137 : Cond.constantLong RJxe99ae 137 9221120237041090560 ∈ qG := (qT4_in 62 (by decide +kernel) rfl)
theorem wl_Jxf58ca_74 : Cond.methodLink RJxf58ca 74 ⟨"java/lang/Float", "floatToRawIntBits", "(F)I"⟩ ∈ qG := (qT4_in 78 (by decide +kernel) rfl)
theorem wk_Jxf58ca_77 : Cond.constant RJxf58ca 77 2143289344 ∈ qG := (qT4_in 81 (by decide +kernel) rfl)
section QF
variable {p : Program} {l : Launch} {e : Env} {R : Room} {s : State} {m : MethodId} {below : List Frame} {meth : Method} {c : Code} {H : Heap} {locs : List Loc} {cells slots : Nat}
variable {cc : ByteArray} {pc : Nat} {ls : Array Slot} {D : va_G} {M0 M : qM} {N : Nat} {post : Option Value → qM → Nat → Prop}
theorem q_dret {av : Array Value} {N0 : Nat} {v : UInt64} (hx : p.tables.exec = Jvm.exec) (hb : c.code = cc) (hr : meth.sig.returnType = some .double) (hlocks : meth.locks = false) (hN : s.heap.size = N0) (hI : qI D M0 s.heap M N H locs) (hp : post (some (.double v)) M N) (hdg : decode cc pc = .ok (.dreturn, 1)) :
    W p l e R s m av below meth c H locs cells slots (MQ below (qQ D M0 N0 post) av s cells slots (qA M0 N0)) (F0 m pc ls [.double v]) :=
  W.dret (v := v) hx hb hr (fun t ht hW => hI.end hN hp ht) (by rw [← hN]; exact hI.2.2.2.2.2) hdg hlocks
theorem q_fret {av : Array Value} {N0 : Nat} {v : UInt32} (hx : p.tables.exec = Jvm.exec) (hb : c.code = cc) (hr : meth.sig.returnType = some .float) (hlocks : meth.locks = false) (hN : s.heap.size = N0) (hI : qI D M0 s.heap M N H locs) (hp : post (some (.float v)) M N) (hdg : decode cc pc = .ok (.freturn, 1)) :
    W p l e R s m av below meth c H locs cells slots (MQ below (qQ D M0 N0 post) av s cells slots (qA M0 N0)) (F0 m pc ls [.float v]) :=
  W.fret (v := v) hx hb hr (fun t ht hW => hI.end hN hp ht) (by rw [← hN]; exact hI.2.2.2.2.2) hdg hlocks
end QF
/-- where there are blocks, neither share nor mean is a NaN -/
def qNaN (q : qQV) : Prop := (0 < q.1.2.2 → vf_n64 (FP.ddiv (FP.i2d (s_X1_countRoots q.1)) (FP.i2d q.1.2.2))) ∧ (0 < q.1.2.2 → vf_n32 (FP.fdiv (FP.i2f (s_X1_sumOfDepths q.1)) (FP.i2f q.1.2.2)))
def s_Jxe99ae_isNaN_b9ae7  (x : UInt64) : Bool := (if (Op.cmpValue (FP.dcmp x x) CmpOp.l) = 0 then false else true)
set_option maxHeartbeats 4000000 in
set_option maxRecDepth 20000 in
theorem c_Jxe99ae_isNaN_b9ae7 (l : Launch) (D : va_G) (cs : qC) {M0 : qM} {N : Nat} (x : UInt64) :
    qMet l D cs yJxe99ae_isNaN_b9ae7 (qws yJxe99ae_isNaN_b9ae7 cJxe99ae_isNaN_b9ae7 2 (some .boolean)) ({ frames := 0, cells := 0, slots := 0, locals := 0 } : Room) M0 N [.double x] (qRet M0 N (.int (qbi (s_Jxe99ae_isNaN_b9ae7 x)))) 0 0 := by
  obtain ⟨R, hR⟩ : ∃ R, s_Jxe99ae_isNaN_b9ae7 x = R := ⟨_, rfl⟩
  rw [hR]
  rw [s_Jxe99ae_isNaN_b9ae7] at hR
  refine q_head (by decide +kernel) ?_ (Nat.le_of_ble_eq_true rfl)
  intro p e s m below meth c ls hx hb hret hlk hml hown hnm hg hK hN hI hl
  have hl : lv_has ls 2 [(0, .double x)] := hl
  refine lv_dload_n hx hb dJxe99ae_isNaN_b9ae7_0 rfl (lv_at hl 0 rfl) ?_
  refine lv_dload_n hx hb dJxe99ae_isNaN_b9ae7_1 rfl (lv_at hl 0 rfl) ?_
  refine lv_dcmp hx hb dJxe99ae_isNaN_b9ae7_2 ?_
  refine lv_if_eq (tgt := 10) hx hb dJxe99ae_isNaN_b9ae7_3 (by decide) (fun c1 => ?_) (fun c1 => ?_)
  · rw [if_pos c1] at hR
    refine lv_iconst (v := 0) hx hb dJxe99ae_isNaN_b9ae7_10 (by decide) ?_
    exact q_zret hx hb hret rfl hlk hN hI (by subst hR; exact ⟨rfl, rfl, rfl⟩) dJxe99ae_isNaN_b9ae7_11
  · rw [if_neg c1] at hR
    refine lv_iconst (v := 1) hx hb dJxe99ae_isNaN_b9ae7_6 (by decide) ?_
    refine lv_goto (tgt := 11) hx hb dJxe99ae_isNaN_b9ae7_7 (by decide) ?_
    exact q_zret hx hb hret rfl hlk hN hI (by subst hR; exact ⟨rfl, rfl, rfl⟩) dJxe99ae_isNaN_b9ae7_11
def s_Jxe99ae_doubleToLongBits_ccdee  (x : UInt64) : Int64 := (if (qbi (s_Jxe99ae_isNaN_b9ae7  x)) = 0 then x.toInt64 else 9221120237041090560)
set_option maxHeartbeats 4000000 in
set_option maxRecDepth 20000 in
theorem c_Jxe99ae_doubleToLongBits_ccdee (l : Launch) (D : va_G) (cs : qC) {M0 : qM} {N : Nat} (x : UInt64) :
    qMet l D cs yJxe99ae_doubleToLongBits_ccdee (qws yJxe99ae_doubleToLongBits_ccdee cJxe99ae_doubleToLongBits_ccdee 2 (some .long)) ({ frames := 1, cells := 0, slots := 0, locals := 40 } : Room) M0 N [.double x] (qRet M0 N (.long (s_Jxe99ae_doubleToLongBits_ccdee x))) 0 0 := by
  obtain ⟨R, hR⟩ : ∃ R, s_Jxe99ae_doubleToLongBits_ccdee x = R := ⟨_, rfl⟩
  rw [hR]
  rw [s_Jxe99ae_doubleToLongBits_ccdee] at hR
  refine q_head (by decide +kernel) ?_ (Nat.le_of_ble_eq_true rfl)
  intro p e s m below meth c ls hx hb hret hlk hml hown hnm hg hK hN hI hl
  have hl : lv_has ls 2 [(0, .double x)] := hl
  refine lv_dload_n hx hb dJxe99ae_doubleToLongBits_ccdee_0 rfl (lv_at hl 0 rfl) ?_
  refine q_goR (q_runS (As := [.double x]) (rest := []) hx hb hml hown hg (c_Jxe99ae_isNaN_b9ae7 l D cs x) v_Jxe99ae_isNaN_b9ae7 wl_Jxe99ae_122 rfl rfl ⟨Nat.le_of_ble_eq_true rfl, Nat.le_of_ble_eq_true rfl⟩ hI hK hl.1 rfl rfl (Nat.le_of_ble_eq_true rfl) dJxe99ae_doubleToLongBits_ccdee_1 ⟨Nat.le_of_ble_eq_true rfl, Nat.le_of_ble_eq_true rfl⟩) hI (fun H locs hI => ?_)
  refine lv_if_ne (tgt := 12) hx hb dJxe99ae_doubleToLongBits_ccdee_4 (by decide) (fun c1 => ?_) (fun c1 => ?_)
  · rw [if_neg c1] at hR
    refine lv_ldc2 hx hb hown (hg _ wk_Jxe99ae_137) dJxe99ae_doubleToLongBits_ccdee_12 ?_
    exact q_lret hx hb hret hlk hN hI (by subst hR; exact ⟨rfl, rfl, rfl⟩) dJxe99ae_doubleToLongBits_ccdee_15
  · rw [if_pos c1] at hR
    refine lv_dload_n hx hb dJxe99ae_doubleToLongBits_ccdee_7 rfl (lv_at hl 0 rfl) ?_
    refine vn_d2l hx hb (hml.trans hl.1.symm) hown (hg _ wl_Jxe99ae_134) (hg _ wr_vn_d2l.1) (hg _ wr_vn_d2l.2.1) (hg _ wr_vn_d2l.2.2) (Nat.le_of_ble_eq_true rfl) (Nat.le_of_ble_eq_true rfl) dJxe99ae_doubleToLongBits_ccdee_8 ?_
    exact q_lret hx hb hret hlk hN hI (by subst hR; exact ⟨rfl, rfl, rfl⟩) dJxe99ae_doubleToLongBits_ccdee_11
def s_Jxf58ca_isNaN_12338  (x : UInt32) : Bool := (if (Op.cmpValue (FP.fcmp x x) CmpOp.l) = 0 then false else true)
set_option maxHeartbeats 4000000 in
set_option maxRecDepth 20000 in
theorem c_Jxf58ca_isNaN_12338 (l : Launch) (D : va_G) (cs : qC) {M0 : qM} {N : Nat} (x : UInt32) :
    qMet l D cs yJxf58ca_isNaN_12338 (qws yJxf58ca_isNaN_12338 cJxf58ca_isNaN_12338 1 (some .boolean)) ({ frames := 0, cells := 0, slots := 0, locals := 0 } : Room) M0 N [.float x] (qRet M0 N (.int (qbi (s_Jxf58ca_isNaN_12338 x)))) 0 0 := by
  obtain ⟨R, hR⟩ : ∃ R, s_Jxf58ca_isNaN_12338 x = R := ⟨_, rfl⟩
  rw [hR]
  rw [s_Jxf58ca_isNaN_12338] at hR
  refine q_headF (by decide +kernel) ?_ (Nat.le_of_ble_eq_true rfl)
  intro p e s m below meth c ls hx hb hret hlk hml hown hnm hg hK hN hI hl
  have hl : lv_has ls 1 [(0, .float x)] := hl
  refine lv_fload_n hx hb dJxf58ca_isNaN_12338_0 rfl (lv_at hl 0 rfl) ?_
  refine lv_fload_n hx hb dJxf58ca_isNaN_12338_1 rfl (lv_at hl 0 rfl) ?_
  refine lv_fcmp hx hb dJxf58ca_isNaN_12338_2 ?_
  refine lv_if_eq (tgt := 10) hx hb dJxf58ca_isNaN_12338_3 (by decide) (fun c1 => ?_) (fun c1 => ?_)
  · rw [if_pos c1] at hR
    refine lv_iconst (v := 0) hx hb dJxf58ca_isNaN_12338_10 (by decide) ?_
    exact q_zret hx hb hret rfl hlk hN hI (by subst hR; exact ⟨rfl, rfl, rfl⟩) dJxf58ca_isNaN_12338_11
  · rw [if_neg c1] at hR
    refine lv_iconst (v := 1) hx hb dJxf58ca_isNaN_12338_6 (by decide) ?_
    refine lv_goto (tgt := 11) hx hb dJxf58ca_isNaN_12338_7 (by decide) ?_
    exact q_zret hx hb hret rfl hlk hN hI (by subst hR; exact ⟨rfl, rfl, rfl⟩) dJxf58ca_isNaN_12338_11
def s_Jxf58ca_floatToIntBits_5c35a  (x : UInt32) : Int32 := (if (qbi (s_Jxf58ca_isNaN_12338  x)) = 0 then x.toInt32 else 2143289344)
set_option maxHeartbeats 4000000 in
set_option maxRecDepth 20000 in
theorem c_Jxf58ca_floatToIntBits_5c35a (l : Launch) (D : va_G) (cs : qC) {M0 : qM} {N : Nat} (x : UInt32) :
    qMet l D cs yJxf58ca_floatToIntBits_5c35a (qws yJxf58ca_floatToIntBits_5c35a cJxf58ca_floatToIntBits_5c35a 1 (some .int)) ({ frames := 1, cells := 0, slots := 0, locals := 40 } : Room) M0 N [.float x] (qRet M0 N (.int (s_Jxf58ca_floatToIntBits_5c35a x))) 0 0 := by
  obtain ⟨R, hR⟩ : ∃ R, s_Jxf58ca_floatToIntBits_5c35a x = R := ⟨_, rfl⟩
  rw [hR]
  rw [s_Jxf58ca_floatToIntBits_5c35a] at hR
  refine q_headF (by decide +kernel) ?_ (Nat.le_of_ble_eq_true rfl)
  intro p e s m below meth c ls hx hb hret hlk hml hown hnm hg hK hN hI hl
  have hl : lv_has ls 1 [(0, .float x)] := hl
  refine lv_fload_n hx hb dJxf58ca_floatToIntBits_5c35a_0 rfl (lv_at hl 0 rfl) ?_
  refine q_goR (q_runS (As := [.float x]) (rest := []) hx hb hml hown hg (c_Jxf58ca_isNaN_12338 l D cs x) v_Jxf58ca_isNaN_12338 wl_Jxf58ca_59 rfl rfl ⟨Nat.le_of_ble_eq_true rfl, Nat.le_of_ble_eq_true rfl⟩ hI hK hl.1 rfl rfl (Nat.le_of_ble_eq_true rfl) dJxf58ca_floatToIntBits_5c35a_1 ⟨Nat.le_of_ble_eq_true rfl, Nat.le_of_ble_eq_true rfl⟩) hI (fun H locs hI => ?_)
  refine lv_if_ne (tgt := 12) hx hb dJxf58ca_floatToIntBits_5c35a_4 (by decide) (fun c1 => ?_) (fun c1 => ?_)
  · rw [if_neg c1] at hR
    refine lv_ldc hx hb hown (hg _ wk_Jxf58ca_77) dJxf58ca_floatToIntBits_5c35a_12 ?_
    exact q_iret hx hb hret hlk hN hI (by subst hR; exact ⟨rfl, rfl, rfl⟩) dJxf58ca_floatToIntBits_5c35a_14
  · rw [if_pos c1] at hR
    refine lv_fload_n hx hb dJxf58ca_floatToIntBits_5c35a_7 rfl (lv_at hl 0 rfl) ?_
    refine vn_f2i hx hb (hml.trans hl.1.symm) hown (hg _ wl_Jxf58ca_74) (hg _ wr_vn_f2i.1) (hg _ wr_vn_f2i.2.1) (hg _ wr_vn_f2i.2.2) (Nat.le_of_ble_eq_true rfl) (Nat.le_of_ble_eq_true rfl) dJxf58ca_floatToIntBits_5c35a_8 ?_
    exact q_iret hx hb hret hlk hN hI (by subst hR; exact ⟨rfl, rfl, rfl⟩) dJxf58ca_floatToIntBits_5c35a_11
def s_X10_meanDepth (f : (Int32 × Int32)) (q : qQV)  : UInt32 := (if 0 < q.1.2.2 then FP.fdiv (FP.i2f (s_X1_sumOfDepths q.1)) (FP.i2f q.1.2.2) else FP.fconst0)
set_option maxHeartbeats 4000000 in
set_option maxRecDepth 20000 in
theorem c_X10_meanDepth (l : Launch) (D : va_G) (cs : qC) {M0 : qM} {N a : Nat} {f : (Int32 × Int32)} {q : qQV} (hL0 : qLX cs M0 a f) (hL1 : qLQ cs M0 (a + 1) q) (hz : qNaN q) :
    qMet l D cs yX10_meanDepth (qws yX10_meanDepth cX10_meanDepth 2 (some .float)) ({ frames := 4, cells := 0, slots := 0, locals := 87 } : Room) M0 N [.ref a] (qRet M0 N (.float (s_X10_meanDepth f q))) 0 0 := by
  obtain ⟨R, hR⟩ : ∃ R, s_X10_meanDepth f q = R := ⟨_, rfl⟩
  rw [hR]
  rw [s_X10_meanDepth] at hR
  refine q_head (by decide +kernel) ?_ (Nat.le_of_ble_eq_true rfl)
  intro p e s m below meth c ls hx hb hret hlk hml hown hnm hg hK hN hI hl
  have hl : lv_has ls 2 [(0, .ref a)] := hl
  refine lv_aload_n hx hb dX10_meanDepth_0 rfl (lv_at hl 0 rfl) ?_
  refine q_get hx hb hg in_X10 hown hK hI hL0 rfl 0 (by decide) (hg _ wf_X10_10) (fun _ h9 => h9) rfl dX10_meanDepth_1 ?_
  refine q_getN hx hb hg in_X5 hown hK hI hL1.1 rfl 0 (by decide) (hK.2 _ (List.mem_of_getElem? (i := 12) rfl)) (fun _ h9 => h9) rfl dX10_meanDepth_4 ?_
  refine q_getN hx hb hg in_X1 hown hK hI hL1.2.1.1 rfl 2 (by decide) (hK.2 _ (List.mem_of_getElem? (i := 4) rfl)) (fun _ h9 => h9) rfl dX10_meanDepth_7 ?_
  refine lv_istore_n (lv' := [(1, .int q.1.2.2), (0, .ref a)]) hx hb dX10_meanDepth_10 rfl hl (by decide) rfl (fun ls hl => ?_)
  refine lv_iload_n hx hb dX10_meanDepth_11 rfl (lv_at hl 0 rfl) ?_
  refine lv_if_gt (tgt := 19) hx hb dX10_meanDepth_12 (by decide) (fun c1 => ?_) (fun c1 => ?_)
  · rw [if_pos c1] at hR
    refine lv_aload_n hx hb dX10_meanDepth_19 rfl (lv_at hl 1 rfl) ?_
    refine q_get hx hb hg in_X10 hown hK hI hL0 rfl 0 (by decide) (hg _ wf_X10_10) (fun _ h9 => h9) rfl dX10_meanDepth_20 ?_
    refine q_getN hx hb hg in_X5 hown hK hI hL1.1 rfl 0 (by decide) (hK.2 _ (List.mem_of_getElem? (i := 12) rfl)) (fun _ h9 => h9) rfl dX10_meanDepth_23 ?_
    refine q_goR (q_runV (As := []) (rest := []) hx hb hml hown hg (c_X1_sumOfDepths l D cs hL1.2.1) v_X1_sumOfDepths wl_X10_277 rfl rfl ⟨Nat.le_of_ble_eq_true rfl, Nat.le_of_ble_eq_true rfl⟩ hI hK 2 hL1.2.1.1 rfl hl.1 rfl rfl (Nat.le_of_ble_eq_true rfl) dX10_meanDepth_26 ⟨Nat.le_of_ble_eq_true rfl, Nat.le_of_ble_eq_true rfl⟩) hI (fun H locs hI => ?_)
    refine lv_i2f hx hb dX10_meanDepth_29 ?_
    refine lv_iload_n hx hb dX10_meanDepth_30 rfl (lv_at hl 0 rfl) ?_
    refine lv_i2f hx hb dX10_meanDepth_31 ?_
    refine lv_fdiv hx hb dX10_meanDepth_32 (hz.2 c1) ?_
    exact q_fret hx hb hret hlk hN hI (by subst hR; exact ⟨rfl, rfl, rfl⟩) dX10_meanDepth_33
  · rw [if_neg c1] at hR
    refine lv_fconst0 hx hb dX10_meanDepth_15 ?_
    refine lv_goto (tgt := 33) hx hb dX10_meanDepth_16 (by decide) ?_
    exact q_fret hx hb hret hlk hN hI (by subst hR; exact ⟨rfl, rfl, rfl⟩) dX10_meanDepth_33
def s_X10_rootShare (f : (Int32 × Int32)) (q : qQV)  : UInt64 := (if 0 < q.1.2.2 then FP.ddiv (FP.i2d (s_X1_countRoots q.1)) (FP.i2d q.1.2.2) else FP.dconst0)
set_option maxHeartbeats 4000000 in
set_option maxRecDepth 20000 in
theorem c_X10_rootShare (l : Launch) (D : va_G) (cs : qC) {M0 : qM} {N a : Nat} {f : (Int32 × Int32)} {q : qQV} (hL0 : qLX cs M0 a f) (hL1 : qLQ cs M0 (a + 1) q) (hz : qNaN q) :
    qMet l D cs yX10_rootShare (qws yX10_rootShare cX10_rootShare 2 (some .double)) ({ frames := 4, cells := 0, slots := 0, locals := 85 } : Room) M0 N [.ref a] (qRet M0 N (.double (s_X10_rootShare f q))) 0 0 := by
  obtain ⟨R, hR⟩ : ∃ R, s_X10_rootShare f q = R := ⟨_, rfl⟩
  rw [hR]
  rw [s_X10_rootShare] at hR
  refine q_head (by decide +kernel) ?_ (Nat.le_of_ble_eq_true rfl)
  intro p e s m below meth c ls hx hb hret hlk hml hown hnm hg hK hN hI hl
  have hl : lv_has ls 2 [(0, .ref a)] := hl
  refine lv_aload_n hx hb dX10_rootShare_0 rfl (lv_at hl 0 rfl) ?_
  refine q_get hx hb hg in_X10 hown hK hI hL0 rfl 0 (by decide) (hg _ wf_X10_10) (fun _ h9 => h9) rfl dX10_rootShare_1 ?_
  refine q_getN hx hb hg in_X5 hown hK hI hL1.1 rfl 0 (by decide) (hK.2 _ (List.mem_of_getElem? (i := 12) rfl)) (fun _ h9 => h9) rfl dX10_rootShare_4 ?_
  refine q_getN hx hb hg in_X1 hown hK hI hL1.2.1.1 rfl 2 (by decide) (hK.2 _ (List.mem_of_getElem? (i := 4) rfl)) (fun _ h9 => h9) rfl dX10_rootShare_7 ?_
  refine lv_istore_n (lv' := [(1, .int q.1.2.2), (0, .ref a)]) hx hb dX10_rootShare_10 rfl hl (by decide) rfl (fun ls hl => ?_)
  refine lv_iload_n hx hb dX10_rootShare_11 rfl (lv_at hl 0 rfl) ?_
  refine lv_if_gt (tgt := 19) hx hb dX10_rootShare_12 (by decide) (fun c1 => ?_) (fun c1 => ?_)
  · rw [if_pos c1] at hR
    refine lv_aload_n hx hb dX10_rootShare_19 rfl (lv_at hl 1 rfl) ?_
    refine q_get hx hb hg in_X10 hown hK hI hL0 rfl 0 (by decide) (hg _ wf_X10_10) (fun _ h9 => h9) rfl dX10_rootShare_20 ?_
    refine q_getN hx hb hg in_X5 hown hK hI hL1.1 rfl 0 (by decide) (hK.2 _ (List.mem_of_getElem? (i := 12) rfl)) (fun _ h9 => h9) rfl dX10_rootShare_23 ?_
    refine q_goR (q_runV (As := []) (rest := []) hx hb hml hown hg (c_X1_countRoots l D cs hL1.2.1) v_X1_countRoots wl_X10_280 rfl rfl ⟨Nat.le_of_ble_eq_true rfl, Nat.le_of_ble_eq_true rfl⟩ hI hK 2 hL1.2.1.1 rfl hl.1 rfl rfl (Nat.le_of_ble_eq_true rfl) dX10_rootShare_26 ⟨Nat.le_of_ble_eq_true rfl, Nat.le_of_ble_eq_true rfl⟩) hI (fun H locs hI => ?_)
    refine lv_i2d hx hb dX10_rootShare_29 ?_
    refine lv_iload_n hx hb dX10_rootShare_30 rfl (lv_at hl 0 rfl) ?_
    refine lv_i2d hx hb dX10_rootShare_31 ?_
    refine lv_ddiv hx hb dX10_rootShare_32 (hz.1 c1) ?_
    exact q_dret hx hb hret hlk hN hI (by subst hR; exact ⟨rfl, rfl, rfl⟩) dX10_rootShare_33
  · rw [if_neg c1] at hR
    refine lv_dconst0 hx hb dX10_rootShare_15 ?_
    refine lv_goto (tgt := 33) hx hb dX10_rootShare_16 (by decide) ?_
    exact q_dret hx hb hret hlk hN hI (by subst hR; exact ⟨rfl, rfl, rfl⟩) dX10_rootShare_33
