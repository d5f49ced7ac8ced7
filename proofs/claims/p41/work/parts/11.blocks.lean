def s_X1_makeEmpty (v : qBV)  : qBV := ((rowFill v.1 0), (rowFill v.2.1 (-1)), 0)
set_option maxHeartbeats 4000000 in
set_option maxRecDepth 20000 in
theorem c_X1_makeEmpty (l : Launch) (D : va_G) (cs : qC) {M0 : qM} {N a : Nat} {v : qBV} (hL0 : qLB cs M0 a v) :
    qMet l D cs yX1_makeEmpty (qws yX1_makeEmpty cX1_makeEmpty 1 none) ({ frames := 1, cells := 0, slots := 0, locals := 22 } : Room) M0 N [.ref a] (qMod N none (fun M' => qLB cs M' a (s_X1_makeEmpty v) ∧ qFr (qIn a 3) M0 M')) 0 0 := by
  obtain ⟨R, hR⟩ : ∃ R, s_X1_makeEmpty v = R := ⟨_, rfl⟩
  rw [hR]
  rw [s_X1_makeEmpty] at hR
  refine q_head (by decide +kernel) ?_ (Nat.le_of_ble_eq_true rfl)
  intro p e s m below meth c ls hx hb hret hlk hml hown hnm hg hK hN hI hl
  have hl : lv_has ls 1 [(0, .ref a)] := hl
  have hS : qFr (qIn a 3) M0 M0 := qFr.rf
  refine lv_aload_n hx hb dX1_makeEmpty_0 rfl (lv_at hl 0 rfl) ?_
  refine lv_iconst (v := 0) hx hb dX1_makeEmpty_1 (by decide) ?_
  have hn := qLB.i2 0 hL0
  refine q_put (v := .int 0) hx hb hg in_X1 tyX1_ok nmX1 hown hK hI hL0.1 rfl 2 (by decide) (hg _ wf_X1_18) (fun _ h9 => h9) rfl rfl rfl (Nat.le_of_ble_eq_true rfl) dX1_makeEmpty_2 (fun H locs hI => ?_)
  obtain ⟨M, hn, hF, hI⟩ : ∃ Mx : qM, qLB cs Mx a (v.1, v.2.1, 0) ∧ qFr (qIn a 1) M0 Mx ∧ qI D M0 s.heap Mx N H locs := ⟨_, hn, qFr.up (by decide), hI⟩
  have hL0 := hn
  have hS := hS.tr hF (fun q hq => by omega)
  refine lv_aload_n hx hb dX1_makeEmpty_5 rfl (lv_at hl 0 rfl) ?_
  refine q_get hx hb hg in_X1 hown hK hI hL0.1 rfl 0 (by decide) (hg _ wf_X1_9) (fun _ h9 => h9) rfl dX1_makeEmpty_6 ?_
  refine lv_iconst (v := 0) hx hb dX1_makeEmpty_9 (by decide) ?_
  refine q_goN (q_runSN (As := [.ref (a + 1), .int 0]) (rest := []) hx hb hml hown hg (c_X10_fill l D cs hL0.2.1 0) v_X10_fill (hK.2 _ (List.mem_of_getElem? (i := 9) rfl)) rfl rfl ⟨Nat.le_of_ble_eq_true rfl, Nat.le_of_ble_eq_true rfl⟩ hI hK hl.1 rfl rfl (Nat.le_of_ble_eq_true rfl) dX1_makeEmpty_10 ⟨Nat.le_of_ble_eq_true rfl, Nat.le_of_ble_eq_true rfl⟩) hI (fun M H locs hp hI => ?_)
  obtain ⟨hn0, hF⟩ := hp
  generalize heg1 : rowFill v.1 0 = g1 at hn0 hR
  have hn := hn0
  have hn : qLB cs M a (g1, v.2.1, 0) := qLB.s0 (v := (v.1, v.2.1, 0)) hL0 hn (qFr.rf.tr hF (fun q hq => by omega))
  have hL0 := hn
  have hS := hS.tr hF (fun q hq => by omega)
  refine lv_aload_n hx hb dX1_makeEmpty_13 rfl (lv_at hl 0 rfl) ?_
  refine q_get hx hb hg in_X1 hown hK hI hL0.1 rfl 1 (by decide) (hg _ wf_X1_15) (fun _ h9 => h9) rfl dX1_makeEmpty_14 ?_
  refine lv_iconst (v := (-1)) hx hb dX1_makeEmpty_17 (by decide) ?_
  refine q_goN (q_runSN (As := [.ref (a + 2), .int (-1)]) (rest := []) hx hb hml hown hg (c_X10_fill l D cs hL0.2.2 (-1)) v_X10_fill (hK.2 _ (List.mem_of_getElem? (i := 9) rfl)) rfl rfl ⟨Nat.le_of_ble_eq_true rfl, Nat.le_of_ble_eq_true rfl⟩ hI hK hl.1 rfl rfl (Nat.le_of_ble_eq_true rfl) dX1_makeEmpty_18 ⟨Nat.le_of_ble_eq_true rfl, Nat.le_of_ble_eq_true rfl⟩) hI (fun M H locs hp hI => ?_)
  obtain ⟨hn0, hF⟩ := hp
  generalize heg2 : rowFill v.2.1 (-1) = g2 at hn0 hR
  have hn := hn0
  have hn : qLB cs M a (g1, g2, 0) := qLB.s1 (v := (g1, v.2.1, 0)) hL0 hn (qFr.rf.tr hF (fun q hq => by omega))
  have hL0 := hn
  have hS := hS.tr hF (fun q hq => by omega)
  exact q_vret (st := []) hx hb hret hlk hN hI (by subst hR; exact ⟨rfl, ⟨hL0, hS⟩, rfl⟩) dX1_makeEmpty_21
def s_X1_add (v : qBV) (p1 : Int32) : Int32 × qBV := (v.2.2, ((rowPut v.1 v.2.2 p1), (rowPut v.2.1 v.2.2 (-1)), v.2.2 + 1))
set_option maxHeartbeats 4000000 in
set_option maxRecDepth 20000 in
theorem c_X1_add (l : Launch) (D : va_G) (cs : qC) {M0 : qM} {N a : Nat} {v : qBV} (hL0 : qLB cs M0 a v) (p1 : Int32) :
    qMet l D cs yX1_add (qws yX1_add cX1_add 3 (some .int)) ({ frames := 1, cells := 0, slots := 0, locals := 22 } : Room) M0 N [.ref a, .int p1] (qMod N (some (.int ((s_X1_add v p1).1))) (fun M' => qLB cs M' a ((s_X1_add v p1).2) ∧ qFr (qIn a 3) M0 M')) 0 0 := by
  obtain ⟨R, hR⟩ : ∃ R, s_X1_add v p1 = R := ⟨_, rfl⟩
  rw [hR]
  rw [s_X1_add] at hR
  refine q_head (by decide +kernel) ?_ (Nat.le_of_ble_eq_true rfl)
  intro p e s m below meth c ls hx hb hret hlk hml hown hnm hg hK hN hI hl
  have hl : lv_has ls 3 [(0, .ref a), (1, .int p1)] := hl
  have hS : qFr (qIn a 3) M0 M0 := qFr.rf
  refine lv_aload_n hx hb dX1_add_0 rfl (lv_at hl 0 rfl) ?_
  refine q_get hx hb hg in_X1 hown hK hI hL0.1 rfl 2 (by decide) (hg _ wf_X1_18) (fun _ h9 => h9) rfl dX1_add_1 ?_
  refine lv_istore_n (lv' := [(2, .int v.2.2), (0, .ref a), (1, .int p1)]) hx hb dX1_add_4 rfl hl (by decide) rfl (fun ls hl => ?_)
  refine lv_aload_n hx hb dX1_add_5 rfl (lv_at hl 1 rfl) ?_
  refine q_get hx hb hg in_X1 hown hK hI hL0.1 rfl 0 (by decide) (hg _ wf_X1_9) (fun _ h9 => h9) rfl dX1_add_6 ?_
  refine lv_iload_n hx hb dX1_add_9 rfl (lv_at hl 0 rfl) ?_
  refine lv_iload_n hx hb dX1_add_10 rfl (lv_at hl 2 rfl) ?_
  refine q_goN (q_runSN (As := [.ref (a + 1), .int v.2.2, .int p1]) (rest := []) hx hb hml hown hg (c_X10_put l D cs hL0.2.1 v.2.2 p1) v_X10_put (hK.2 _ (List.mem_of_getElem? (i := 32) rfl)) rfl rfl ⟨Nat.le_of_ble_eq_true rfl, Nat.le_of_ble_eq_true rfl⟩ hI hK hl.1 rfl rfl (Nat.le_of_ble_eq_true rfl) dX1_add_11 ⟨Nat.le_of_ble_eq_true rfl, Nat.le_of_ble_eq_true rfl⟩) hI (fun M H locs hp hI => ?_)
  obtain ⟨hn0, hF⟩ := hp
  generalize heg1 : rowPut v.1 v.2.2 p1 = g1 at hn0 hR
  have hn := hn0
  have hn : qLB cs M a (g1, v.2.1, v.2.2) := qLB.s0 (v := v) hL0 hn (qFr.rf.tr hF (fun q hq => by omega))
  have hL0 := hn
  have hS := hS.tr hF (fun q hq => by omega)
  refine lv_aload_n hx hb dX1_add_14 rfl (lv_at hl 1 rfl) ?_
  refine q_get hx hb hg in_X1 hown hK hI hL0.1 rfl 1 (by decide) (hg _ wf_X1_15) (fun _ h9 => h9) rfl dX1_add_15 ?_
  refine lv_iload_n hx hb dX1_add_18 rfl (lv_at hl 0 rfl) ?_
  refine lv_iconst (v := (-1)) hx hb dX1_add_19 (by decide) ?_
  refine q_goN (q_runSN (As := [.ref (a + 2), .int v.2.2, .int (-1)]) (rest := []) hx hb hml hown hg (c_X10_put l D cs hL0.2.2 v.2.2 (-1)) v_X10_put (hK.2 _ (List.mem_of_getElem? (i := 32) rfl)) rfl rfl ⟨Nat.le_of_ble_eq_true rfl, Nat.le_of_ble_eq_true rfl⟩ hI hK hl.1 rfl rfl (Nat.le_of_ble_eq_true rfl) dX1_add_20 ⟨Nat.le_of_ble_eq_true rfl, Nat.le_of_ble_eq_true rfl⟩) hI (fun M H locs hp hI => ?_)
  obtain ⟨hn0, hF⟩ := hp
  generalize heg2 : rowPut v.2.1 v.2.2 (-1) = g2 at hn0 hR
  have hn := hn0
  have hn : qLB cs M a (g1, g2, v.2.2) := qLB.s1 (v := (g1, v.2.1, v.2.2)) hL0 hn (qFr.rf.tr hF (fun q hq => by omega))
  have hL0 := hn
  have hS := hS.tr hF (fun q hq => by omega)
  refine lv_aload_n hx hb dX1_add_23 rfl (lv_at hl 1 rfl) ?_
  refine lv_dup hx hb dX1_add_24 rfl ?_
  refine q_get hx hb hg in_X1 hown hK hI hL0.1 rfl 2 (by decide) (hg _ wf_X1_18) (fun _ h9 => h9) rfl dX1_add_25 ?_
  refine lv_iconst (v := 1) hx hb dX1_add_28 (by decide) ?_
  refine lv_iadd hx hb dX1_add_29 ?_
  have hn := qLB.i2 (v.2.2 + 1) hL0
  refine q_put (v := .int (v.2.2 + 1)) hx hb hg in_X1 tyX1_ok nmX1 hown hK hI hL0.1 rfl 2 (by decide) (hg _ wf_X1_18) (fun _ h9 => h9) rfl rfl rfl (Nat.le_of_ble_eq_true rfl) dX1_add_30 (fun H locs hI => ?_)
  obtain ⟨M, hn, hF, hI⟩ : ∃ Mx : qM, qLB cs Mx a (g1, g2, v.2.2 + 1) ∧ qFr (qIn a 1) M Mx ∧ qI D M0 s.heap Mx N H locs := ⟨_, hn, qFr.up (by decide), hI⟩
  have hL0 := hn
  have hS := hS.tr hF (fun q hq => by omega)
  refine lv_iload_n hx hb dX1_add_33 rfl (lv_at hl 0 rfl) ?_
  exact q_iret hx hb hret hlk hN hI (by subst hR; exact ⟨rfl, ⟨hL0, hS⟩, rfl⟩) dX1_add_34
def s_X1_isThere (v : qBV) (p1 : Int32) : Bool := (if p1 < 0 then false else (if v.2.2 ≤ p1 then false else true))
set_option maxHeartbeats 4000000 in
set_option maxRecDepth 20000 in
theorem c_X1_isThere (l : Launch) (D : va_G) (cs : qC) {M0 : qM} {N a : Nat} {v : qBV} (hL0 : qLB cs M0 a v) (p1 : Int32) :
    qMet l D cs yX1_isThere (qws yX1_isThere cX1_isThere 2 (some .boolean)) ({ frames := 0, cells := 0, slots := 0, locals := 0 } : Room) M0 N [.ref a, .int p1] (qRet M0 N (.int (qbi (s_X1_isThere v p1)))) 0 0 := by
  obtain ⟨R, hR⟩ : ∃ R, s_X1_isThere v p1 = R := ⟨_, rfl⟩
  rw [hR]
  rw [s_X1_isThere] at hR
  refine q_head (by decide +kernel) ?_ (Nat.le_of_ble_eq_true rfl)
  intro p e s m below meth c ls hx hb hret hlk hml hown hnm hg hK hN hI hl
  have hl : lv_has ls 2 [(0, .ref a), (1, .int p1)] := hl
  refine lv_iload_n hx hb dX1_isThere_0 rfl (lv_at hl 1 rfl) ?_
  refine lv_if_lt (tgt := 16) hx hb dX1_isThere_1 (by decide) (fun c1 => ?_) (fun c1 => ?_)
  · rw [if_pos c1] at hR
    refine lv_iconst (v := 0) hx hb dX1_isThere_16 (by decide) ?_
    exact q_zret hx hb hret rfl hlk hN hI (by subst hR; exact ⟨rfl, rfl, rfl⟩) dX1_isThere_17
  · rw [if_neg c1] at hR
    refine lv_iload_n hx hb dX1_isThere_4 rfl (lv_at hl 1 rfl) ?_
    refine lv_aload_n hx hb dX1_isThere_5 rfl (lv_at hl 0 rfl) ?_
    refine q_get hx hb hg in_X1 hown hK hI hL0.1 rfl 2 (by decide) (hg _ wf_X1_18) (fun _ h9 => h9) rfl dX1_isThere_6 ?_
    refine lv_icmp_ge (tgt := 16) hx hb dX1_isThere_9 (by decide) (fun c2 => ?_) (fun c2 => ?_)
    · rw [if_pos c2] at hR
      refine lv_iconst (v := 0) hx hb dX1_isThere_16 (by decide) ?_
      exact q_zret hx hb hret rfl hlk hN hI (by subst hR; exact ⟨rfl, rfl, rfl⟩) dX1_isThere_17
    · rw [if_neg c2] at hR
      refine lv_iconst (v := 1) hx hb dX1_isThere_12 (by decide) ?_
      refine lv_goto (tgt := 17) hx hb dX1_isThere_13 (by decide) ?_
      exact q_zret hx hb hret rfl hlk hN hI (by subst hR; exact ⟨rfl, rfl, rfl⟩) dX1_isThere_17
def s_X1_weightOf (v : qBV) (p1 : Int32) : Int32 := rowAt v.1 p1
set_option maxHeartbeats 4000000 in
set_option maxRecDepth 20000 in
theorem c_X1_weightOf (l : Launch) (D : va_G) (cs : qC) {M0 : qM} {N a : Nat} {v : qBV} (hL0 : qLB cs M0 a v) (p1 : Int32) :
    qMet l D cs yX1_weightOf (qws yX1_weightOf cX1_weightOf 2 (some .int)) ({ frames := 1, cells := 0, slots := 0, locals := 21 } : Room) M0 N [.ref a, .int p1] (qRet M0 N (.int (s_X1_weightOf v p1))) 0 0 := by
  obtain ⟨R, hR⟩ : ∃ R, s_X1_weightOf v p1 = R := ⟨_, rfl⟩
  rw [hR]
  rw [s_X1_weightOf] at hR
  refine q_head (by decide +kernel) ?_ (Nat.le_of_ble_eq_true rfl)
  intro p e s m below meth c ls hx hb hret hlk hml hown hnm hg hK hN hI hl
  have hl : lv_has ls 2 [(0, .ref a), (1, .int p1)] := hl
  refine lv_aload_n hx hb dX1_weightOf_0 rfl (lv_at hl 0 rfl) ?_
  refine q_get hx hb hg in_X1 hown hK hI hL0.1 rfl 0 (by decide) (hg _ wf_X1_9) (fun _ h9 => h9) rfl dX1_weightOf_1 ?_
  refine lv_iload_n hx hb dX1_weightOf_4 rfl (lv_at hl 1 rfl) ?_
  refine q_goR (q_runSN (As := [.ref (a + 1), .int p1]) (rest := []) hx hb hml hown hg (c_X10_at l D cs hL0.2.1 p1) v_X10_at (hK.2 _ (List.mem_of_getElem? (i := 33) rfl)) rfl rfl ⟨Nat.le_of_ble_eq_true rfl, Nat.le_of_ble_eq_true rfl⟩ hI hK hl.1 rfl rfl (Nat.le_of_ble_eq_true rfl) dX1_weightOf_5 ⟨Nat.le_of_ble_eq_true rfl, Nat.le_of_ble_eq_true rfl⟩) hI (fun H locs hI => ?_)
  exact q_iret hx hb hret hlk hN hI (by subst hR; exact ⟨rfl, rfl, rfl⟩) dX1_weightOf_8
def s_X1_holderOf (v : qBV) (p1 : Int32) : Int32 := rowAt v.2.1 p1
set_option maxHeartbeats 4000000 in
set_option maxRecDepth 20000 in
theorem c_X1_holderOf (l : Launch) (D : va_G) (cs : qC) {M0 : qM} {N a : Nat} {v : qBV} (hL0 : qLB cs M0 a v) (p1 : Int32) :
    qMet l D cs yX1_holderOf (qws yX1_holderOf cX1_holderOf 2 (some .int)) ({ frames := 1, cells := 0, slots := 0, locals := 21 } : Room) M0 N [.ref a, .int p1] (qRet M0 N (.int (s_X1_holderOf v p1))) 0 0 := by
  obtain ⟨R, hR⟩ : ∃ R, s_X1_holderOf v p1 = R := ⟨_, rfl⟩
  rw [hR]
  rw [s_X1_holderOf] at hR
  refine q_head (by decide +kernel) ?_ (Nat.le_of_ble_eq_true rfl)
  intro p e s m below meth c ls hx hb hret hlk hml hown hnm hg hK hN hI hl
  have hl : lv_has ls 2 [(0, .ref a), (1, .int p1)] := hl
  refine lv_aload_n hx hb dX1_holderOf_0 rfl (lv_at hl 0 rfl) ?_
  refine q_get hx hb hg in_X1 hown hK hI hL0.1 rfl 1 (by decide) (hg _ wf_X1_15) (fun _ h9 => h9) rfl dX1_holderOf_1 ?_
  refine lv_iload_n hx hb dX1_holderOf_4 rfl (lv_at hl 1 rfl) ?_
  refine q_goR (q_runSN (As := [.ref (a + 2), .int p1]) (rest := []) hx hb hml hown hg (c_X10_at l D cs hL0.2.2 p1) v_X10_at (hK.2 _ (List.mem_of_getElem? (i := 33) rfl)) rfl rfl ⟨Nat.le_of_ble_eq_true rfl, Nat.le_of_ble_eq_true rfl⟩ hI hK hl.1 rfl rfl (Nat.le_of_ble_eq_true rfl) dX1_holderOf_5 ⟨Nat.le_of_ble_eq_true rfl, Nat.le_of_ble_eq_true rfl⟩) hI (fun H locs hI => ?_)
  exact q_iret hx hb hret hlk hN hI (by subst hR; exact ⟨rfl, rfl, rfl⟩) dX1_holderOf_8
def s_X1_depthOf (v : qBV) (p1 : Int32) : Int32 := s_X10_stepsAlong v.2.1 p1
set_option maxHeartbeats 4000000 in
set_option maxRecDepth 20000 in
theorem c_X1_depthOf (l : Launch) (D : va_G) (cs : qC) {M0 : qM} {N a : Nat} {v : qBV} (hL0 : qLB cs M0 a v) (p1 : Int32) :
    qMet l D cs yX1_depthOf (qws yX1_depthOf cX1_depthOf 2 (some .int)) ({ frames := 2, cells := 0, slots := 0, locals := 44 } : Room) M0 N [.ref a, .int p1] (qRet M0 N (.int (s_X1_depthOf v p1))) 0 0 := by
  obtain ⟨R, hR⟩ : ∃ R, s_X1_depthOf v p1 = R := ⟨_, rfl⟩
  rw [hR]
  rw [s_X1_depthOf] at hR
  refine q_head (by decide +kernel) ?_ (Nat.le_of_ble_eq_true rfl)
  intro p e s m below meth c ls hx hb hret hlk hml hown hnm hg hK hN hI hl
  have hl : lv_has ls 2 [(0, .ref a), (1, .int p1)] := hl
  refine lv_aload_n hx hb dX1_depthOf_0 rfl (lv_at hl 0 rfl) ?_
  refine q_get hx hb hg in_X1 hown hK hI hL0.1 rfl 1 (by decide) (hg _ wf_X1_15) (fun _ h9 => h9) rfl dX1_depthOf_1 ?_
  refine lv_iload_n hx hb dX1_depthOf_4 rfl (lv_at hl 1 rfl) ?_
  refine q_goR (q_runSN (As := [.ref (a + 2), .int p1]) (rest := []) hx hb hml hown hg (c_X10_stepsAlong l D cs hL0.2.2 p1) v_X10_stepsAlong (hK.2 _ (List.mem_of_getElem? (i := 39) rfl)) rfl rfl ⟨Nat.le_of_ble_eq_true rfl, Nat.le_of_ble_eq_true rfl⟩ hI hK hl.1 rfl rfl (Nat.le_of_ble_eq_true rfl) dX1_depthOf_5 ⟨Nat.le_of_ble_eq_true rfl, Nat.le_of_ble_eq_true rfl⟩) hI (fun H locs hI => ?_)
  exact q_iret hx hb hret hlk hN hI (by subst hR; exact ⟨rfl, rfl, rfl⟩) dX1_depthOf_8
def s_X1_rootByHolders (v : qBV) (p1 : Int32) : Int32 := s_X10_lastAlong v.2.1 p1
set_option maxHeartbeats 4000000 in
set_option maxRecDepth 20000 in
theorem c_X1_rootByHolders (l : Launch) (D : va_G) (cs : qC) {M0 : qM} {N a : Nat} {v : qBV} (hL0 : qLB cs M0 a v) (p1 : Int32) :
    qMet l D cs yX1_rootByHolders (qws yX1_rootByHolders cX1_rootByHolders 2 (some .int)) ({ frames := 2, cells := 0, slots := 0, locals := 44 } : Room) M0 N [.ref a, .int p1] (qRet M0 N (.int (s_X1_rootByHolders v p1))) 0 0 := by
  obtain ⟨R, hR⟩ : ∃ R, s_X1_rootByHolders v p1 = R := ⟨_, rfl⟩
  rw [hR]
  rw [s_X1_rootByHolders] at hR
  refine q_head (by decide +kernel) ?_ (Nat.le_of_ble_eq_true rfl)
  intro p e s m below meth c ls hx hb hret hlk hml hown hnm hg hK hN hI hl
  have hl : lv_has ls 2 [(0, .ref a), (1, .int p1)] := hl
  refine lv_aload_n hx hb dX1_rootByHolders_0 rfl (lv_at hl 0 rfl) ?_
  refine q_get hx hb hg in_X1 hown hK hI hL0.1 rfl 1 (by decide) (hg _ wf_X1_15) (fun _ h9 => h9) rfl dX1_rootByHolders_1 ?_
  refine lv_iload_n hx hb dX1_rootByHolders_4 rfl (lv_at hl 1 rfl) ?_
  refine q_goR (q_runSN (As := [.ref (a + 2), .int p1]) (rest := []) hx hb hml hown hg (c_X10_lastAlong l D cs hL0.2.2 p1) v_X10_lastAlong (hK.2 _ (List.mem_of_getElem? (i := 34) rfl)) rfl rfl ⟨Nat.le_of_ble_eq_true rfl, Nat.le_of_ble_eq_true rfl⟩ hI hK hl.1 rfl rfl (Nat.le_of_ble_eq_true rfl) dX1_rootByHolders_5 ⟨Nat.le_of_ble_eq_true rfl, Nat.le_of_ble_eq_true rfl⟩) hI (fun H locs hI => ?_)
  exact q_iret hx hb hret hlk hN hI (by subst hR; exact ⟨rfl, rfl, rfl⟩) dX1_rootByHolders_8
def s_X1_sumByHolders_L7 (v : qBV) (p1 : Int32) : Nat → Int32 → Int32 → Int32 → Int32
  | 0, _, _, _ => default
  | n + 1, x2h7, x3h7, x4h7 => (if 16 ≤ x4h7 then x2h7 else (if x3h7 < 0 then x2h7 else (s_X1_sumByHolders_L7 v p1 n (x2h7 + (s_X1_weightOf v x3h7)) (s_X1_holderOf v x3h7) (x4h7 + 1))))
def s_X1_sumByHolders (v : qBV) (p1 : Int32) : Int32 := (s_X1_sumByHolders_L7 v p1 ((16 : Int32).toInt.toNat + 1) 0 p1 0)
set_option maxHeartbeats 4000000 in
set_option maxRecDepth 20000 in
theorem c_X1_sumByHolders (l : Launch) (D : va_G) (cs : qC) {M0 : qM} {N a : Nat} {v : qBV} (hL0 : qLB cs M0 a v) (p1 : Int32) :
    qMet l D cs yX1_sumByHolders (qws yX1_sumByHolders cX1_sumByHolders 5 (some .int)) ({ frames := 2, cells := 0, slots := 0, locals := 42 } : Room) M0 N [.ref a, .int p1] (qRet M0 N (.int (s_X1_sumByHolders v p1))) 0 0 := by
  obtain ⟨R, hR⟩ : ∃ R, s_X1_sumByHolders v p1 = R := ⟨_, rfl⟩
  rw [hR]
  rw [s_X1_sumByHolders] at hR
  refine q_head (by decide +kernel) ?_ (Nat.le_of_ble_eq_true rfl)
  intro p e s m below meth c ls hx hb hret hlk hml hown hnm hg hK hN hI hl
  have hl : lv_has ls 5 [(0, .ref a), (1, .int p1)] := hl
  refine lv_iconst (v := 0) hx hb dX1_sumByHolders_0 (by decide) ?_
  refine lv_istore_n (lv' := [(2, .int 0), (0, .ref a), (1, .int p1)]) hx hb dX1_sumByHolders_1 rfl hl (by decide) rfl (fun ls hl => ?_)
  refine lv_iload_n hx hb dX1_sumByHolders_2 rfl (lv_at hl 2 rfl) ?_
  refine lv_istore_n (lv' := [(3, .int p1), (2, .int 0), (0, .ref a), (1, .int p1)]) hx hb dX1_sumByHolders_3 rfl hl (by decide) rfl (fun ls hl => ?_)
  refine lv_iconst (v := 0) hx hb dX1_sumByHolders_4 (by decide) ?_
  refine lv_istore (lv' := [(4, .int 0), (3, .int p1), (2, .int 0), (0, .ref a), (1, .int p1)]) hx hb dX1_sumByHolders_5 hl (by decide) rfl (fun ls hl => ?_)
  have loop7 : ∀ (n7 : Nat) (x2h7 : Int32) (x3h7 : Int32) (x4h7 : Int32), qmu 16 x4h7 < n7 → s_X1_sumByHolders_L7 v p1 n7 x2h7 x3h7 x4h7 = R → ∀ (H : Heap) (locs : List Loc) (ls : Array Slot), qI D M0 s.heap M0 N H locs → lv_has ls 5 [(0, .ref a), (1, .int p1), (2, .int x2h7), (3, .int x3h7), (4, .int x4h7)] →
      W p l e ({ frames := 2, cells := 0, slots := 0, locals := 42 } : Room) s m [Value.ref a, Value.int p1].toArray below meth c H locs 0 0 (MQ below (qQ D M0 N (qRet M0 N (.int R))) [Value.ref a, Value.int p1].toArray s 0 0 (qA M0 N)) (F0 m 7 ls []) := by
    intro n7
    induction n7 with
    | zero => intro x2h7 x3h7 x4h7 hm; exact absurd hm (Nat.not_lt_zero _)
    | succ n7 ih7 =>
      intro x2h7 x3h7 x4h7 hm7 hR H locs ls  hI hl
      rw [s_X1_sumByHolders_L7] at hR
      refine lv_iload hx hb dX1_sumByHolders_7 (lv_at hl 4 rfl) ?_
      refine lv_bipush (v := 16) hx hb dX1_sumByHolders_9 (by decide) ?_
      refine lv_icmp_ge (tgt := 38) hx hb dX1_sumByHolders_11 (by decide) (fun c1 => ?_) (fun c1 => ?_)
      · rw [if_pos c1] at hR
        refine lv_iload_n hx hb dX1_sumByHolders_38 rfl (lv_at hl 2 rfl) ?_
        exact q_iret hx hb hret hlk hN hI (by subst hR; exact ⟨rfl, rfl, rfl⟩) dX1_sumByHolders_39
      · rw [if_neg c1] at hR
        refine lv_iload_n hx hb dX1_sumByHolders_14 rfl (lv_at hl 3 rfl) ?_
        refine lv_if_lt (tgt := 38) hx hb dX1_sumByHolders_15 (by decide) (fun c2 => ?_) (fun c2 => ?_)
        · rw [if_pos c2] at hR
          refine lv_iload_n hx hb dX1_sumByHolders_38 rfl (lv_at hl 2 rfl) ?_
          exact q_iret hx hb hret hlk hN hI (by subst hR; exact ⟨rfl, rfl, rfl⟩) dX1_sumByHolders_39
        · rw [if_neg c2] at hR
          refine lv_iload_n hx hb dX1_sumByHolders_18 rfl (lv_at hl 2 rfl) ?_
          refine lv_aload_n hx hb dX1_sumByHolders_19 rfl (lv_at hl 0 rfl) ?_
          refine lv_iload_n hx hb dX1_sumByHolders_20 rfl (lv_at hl 3 rfl) ?_
          refine q_goR (q_runV (As := [.int x3h7]) (rest := [.int x2h7]) hx hb hml hown hg (c_X1_weightOf l D cs hL0 x3h7) v_X1_weightOf wl_X1_44 rfl rfl ⟨Nat.le_of_ble_eq_true rfl, Nat.le_of_ble_eq_true rfl⟩ hI hK 2 hL0.1 rfl hl.1 rfl rfl (Nat.le_of_ble_eq_true rfl) dX1_sumByHolders_21 ⟨Nat.le_of_ble_eq_true rfl, Nat.le_of_ble_eq_true rfl⟩) hI (fun H locs hI => ?_)
          refine lv_iadd hx hb dX1_sumByHolders_24 ?_
          refine lv_istore_n (lv' := [(2, .int (x2h7 + (s_X1_weightOf v x3h7))), (0, .ref a), (1, .int p1), (3, .int x3h7), (4, .int x4h7)]) hx hb dX1_sumByHolders_25 rfl hl (by decide) rfl (fun ls hl => ?_)
          refine lv_aload_n hx hb dX1_sumByHolders_26 rfl (lv_at hl 1 rfl) ?_
          refine lv_iload_n hx hb dX1_sumByHolders_27 rfl (lv_at hl 3 rfl) ?_
          refine q_goR (q_runV (As := [.int x3h7]) (rest := []) hx hb hml hown hg (c_X1_holderOf l D cs hL0 x3h7) v_X1_holderOf wl_X1_48 rfl rfl ⟨Nat.le_of_ble_eq_true rfl, Nat.le_of_ble_eq_true rfl⟩ hI hK 2 hL0.1 rfl hl.1 rfl rfl (Nat.le_of_ble_eq_true rfl) dX1_sumByHolders_28 ⟨Nat.le_of_ble_eq_true rfl, Nat.le_of_ble_eq_true rfl⟩) hI (fun H locs hI => ?_)
          refine lv_istore_n (lv' := [(3, .int (s_X1_holderOf v x3h7)), (2, .int (x2h7 + (s_X1_weightOf v x3h7))), (0, .ref a), (1, .int p1), (4, .int x4h7)]) hx hb dX1_sumByHolders_31 rfl hl (by decide) rfl (fun ls hl => ?_)
          refine lv_iinc (v := x4h7 + 1) (lv' := [(4, .int (x4h7 + 1)), (3, .int (s_X1_holderOf v x3h7)), (2, .int (x2h7 + (s_X1_weightOf v x3h7))), (0, .ref a), (1, .int p1)]) hx hb dX1_sumByHolders_32 hl (k := 4) rfl rfl (by decide) rfl (fun ls hl => ?_)
          refine lv_goto (tgt := 7) hx hb dX1_sumByHolders_35 (by decide) ?_
          exact ih7 (x2h7 + (s_X1_weightOf v x3h7)) (s_X1_holderOf v x3h7) (x4h7 + 1) (q_mu c1 hm7) hR _ _ _  hI (lv_sub hl [3, 4, 2, 1, 0] rfl)
  exact loop7 _ 0 p1 0 (q_fuel _) hR _ _ _  hI (lv_sub hl [3, 4, 2, 1, 0] rfl)
def s_X1_jointByHolders_L5 (v : qBV) (p1 : Int32) (p2 : Int32) : Nat → Int32 → Int32 → Int32
  | 0, _, _ => default
  | n + 1, x3h5, x4h5 => (if 16 ≤ x4h5 then (-4) else (if x3h5 < 0 then (-4) else (if (qbi (s_X10_isAlong v.2.1 p2 x3h5)) = 0 then (s_X1_jointByHolders_L5 v p1 p2 n (s_X1_holderOf v x3h5) (x4h5 + 1)) else x3h5)))
def s_X1_jointByHolders (v : qBV) (p1 : Int32) (p2 : Int32) : Int32 := (s_X1_jointByHolders_L5 v p1 p2 ((16 : Int32).toInt.toNat + 1) p1 0)
set_option maxHeartbeats 4000000 in
set_option maxRecDepth 20000 in
theorem c_X1_jointByHolders (l : Launch) (D : va_G) (cs : qC) {M0 : qM} {N a : Nat} {v : qBV} (hL0 : qLB cs M0 a v) (p1 : Int32) (p2 : Int32) :
    qMet l D cs yX1_jointByHolders (qws yX1_jointByHolders cX1_jointByHolders 5 (some .int)) ({ frames := 2, cells := 0, slots := 0, locals := 45 } : Room) M0 N [.ref a, .int p1, .int p2] (qRet M0 N (.int (s_X1_jointByHolders v p1 p2))) 0 0 := by
  obtain ⟨R, hR⟩ : ∃ R, s_X1_jointByHolders v p1 p2 = R := ⟨_, rfl⟩
  rw [hR]
  rw [s_X1_jointByHolders] at hR
  refine q_head (by decide +kernel) ?_ (Nat.le_of_ble_eq_true rfl)
  intro p e s m below meth c ls hx hb hret hlk hml hown hnm hg hK hN hI hl
  have hl : lv_has ls 5 [(0, .ref a), (1, .int p1), (2, .int p2)] := hl
  refine lv_iload_n hx hb dX1_jointByHolders_0 rfl (lv_at hl 1 rfl) ?_
  refine lv_istore_n (lv' := [(3, .int p1), (0, .ref a), (1, .int p1), (2, .int p2)]) hx hb dX1_jointByHolders_1 rfl hl (by decide) rfl (fun ls hl => ?_)
  refine lv_iconst (v := 0) hx hb dX1_jointByHolders_2 (by decide) ?_
  refine lv_istore (lv' := [(4, .int 0), (3, .int p1), (0, .ref a), (1, .int p1), (2, .int p2)]) hx hb dX1_jointByHolders_3 hl (by decide) rfl (fun ls hl => ?_)
  have loop5 : ∀ (n5 : Nat) (x3h5 : Int32) (x4h5 : Int32), qmu 16 x4h5 < n5 → s_X1_jointByHolders_L5 v p1 p2 n5 x3h5 x4h5 = R → ∀ (H : Heap) (locs : List Loc) (ls : Array Slot), qI D M0 s.heap M0 N H locs → lv_has ls 5 [(0, .ref a), (1, .int p1), (2, .int p2), (3, .int x3h5), (4, .int x4h5)] →
      W p l e ({ frames := 2, cells := 0, slots := 0, locals := 45 } : Room) s m [Value.ref a, Value.int p1, Value.int p2].toArray below meth c H locs 0 0 (MQ below (qQ D M0 N (qRet M0 N (.int R))) [Value.ref a, Value.int p1, Value.int p2].toArray s 0 0 (qA M0 N)) (F0 m 5 ls []) := by
    intro n5
    induction n5 with
    | zero => intro x3h5 x4h5 hm; exact absurd hm (Nat.not_lt_zero _)
    | succ n5 ih5 =>
      intro x3h5 x4h5 hm5 hR H locs ls  hI hl
      rw [s_X1_jointByHolders_L5] at hR
      refine lv_iload hx hb dX1_jointByHolders_5 (lv_at hl 4 rfl) ?_
      refine lv_bipush (v := 16) hx hb dX1_jointByHolders_7 (by decide) ?_
      refine lv_icmp_ge (tgt := 42) hx hb dX1_jointByHolders_9 (by decide) (fun c1 => ?_) (fun c1 => ?_)
      · rw [if_pos c1] at hR
        refine lv_bipush (v := (-4)) hx hb dX1_jointByHolders_42 (by decide) ?_
        exact q_iret hx hb hret hlk hN hI (by subst hR; exact ⟨rfl, rfl, rfl⟩) dX1_jointByHolders_44
      · rw [if_neg c1] at hR
        refine lv_iload_n hx hb dX1_jointByHolders_12 rfl (lv_at hl 3 rfl) ?_
        refine lv_if_lt (tgt := 42) hx hb dX1_jointByHolders_13 (by decide) (fun c2 => ?_) (fun c2 => ?_)
        · rw [if_pos c2] at hR
          refine lv_bipush (v := (-4)) hx hb dX1_jointByHolders_42 (by decide) ?_
          exact q_iret hx hb hret hlk hN hI (by subst hR; exact ⟨rfl, rfl, rfl⟩) dX1_jointByHolders_44
        · rw [if_neg c2] at hR
          refine lv_aload_n hx hb dX1_jointByHolders_16 rfl (lv_at hl 0 rfl) ?_
          refine q_get hx hb hg in_X1 hown hK hI hL0.1 rfl 1 (by decide) (hg _ wf_X1_15) (fun _ h9 => h9) rfl dX1_jointByHolders_17 ?_
          refine lv_iload_n hx hb dX1_jointByHolders_20 rfl (lv_at hl 2 rfl) ?_
          refine lv_iload_n hx hb dX1_jointByHolders_21 rfl (lv_at hl 3 rfl) ?_
          refine q_goR (q_runSN (As := [.ref (a + 2), .int p2, .int x3h5]) (rest := []) hx hb hml hown hg (c_X10_isAlong l D cs hL0.2.2 p2 x3h5) v_X10_isAlong (hK.2 _ (List.mem_of_getElem? (i := 44) rfl)) rfl rfl ⟨Nat.le_of_ble_eq_true rfl, Nat.le_of_ble_eq_true rfl⟩ hI hK hl.1 rfl rfl (Nat.le_of_ble_eq_true rfl) dX1_jointByHolders_22 ⟨Nat.le_of_ble_eq_true rfl, Nat.le_of_ble_eq_true rfl⟩) hI (fun H locs hI => ?_)
          refine lv_if_eq (tgt := 30) hx hb dX1_jointByHolders_25 (by decide) (fun c3 => ?_) (fun c3 => ?_)
          · rw [if_pos c3] at hR
            refine lv_aload_n hx hb dX1_jointByHolders_30 rfl (lv_at hl 0 rfl) ?_
            refine lv_iload_n hx hb dX1_jointByHolders_31 rfl (lv_at hl 3 rfl) ?_
            refine q_goR (q_runV (As := [.int x3h5]) (rest := []) hx hb hml hown hg (c_X1_holderOf l D cs hL0 x3h5) v_X1_holderOf wl_X1_48 rfl rfl ⟨Nat.le_of_ble_eq_true rfl, Nat.le_of_ble_eq_true rfl⟩ hI hK 2 hL0.1 rfl hl.1 rfl rfl (Nat.le_of_ble_eq_true rfl) dX1_jointByHolders_32 ⟨Nat.le_of_ble_eq_true rfl, Nat.le_of_ble_eq_true rfl⟩) hI (fun H locs hI => ?_)
            refine lv_istore_n (lv' := [(3, .int (s_X1_holderOf v x3h5)), (0, .ref a), (1, .int p1), (2, .int p2), (4, .int x4h5)]) hx hb dX1_jointByHolders_35 rfl hl (by decide) rfl (fun ls hl => ?_)
            refine lv_iinc (v := x4h5 + 1) (lv' := [(4, .int (x4h5 + 1)), (3, .int (s_X1_holderOf v x3h5)), (0, .ref a), (1, .int p1), (2, .int p2)]) hx hb dX1_jointByHolders_36 hl (k := 4) rfl rfl (by decide) rfl (fun ls hl => ?_)
            refine lv_goto (tgt := 5) hx hb dX1_jointByHolders_39 (by decide) ?_
            exact ih5 (s_X1_holderOf v x3h5) (x4h5 + 1) (q_mu c1 hm5) hR _ _ _  hI (lv_sub hl [2, 3, 4, 1, 0] rfl)
          · rw [if_neg c3] at hR
            refine lv_iload_n hx hb dX1_jointByHolders_28 rfl (lv_at hl 3 rfl) ?_
            exact q_iret hx hb hret hlk hN hI (by subst hR; exact ⟨rfl, rfl, rfl⟩) dX1_jointByHolders_29
  exact loop5 _ p1 0 (q_fuel _) hR _ _ _  hI (lv_sub hl [2, 3, 4, 1, 0] rfl)
def s_X1_hangingAtOnce_L4 (v : qBV) (p1 : Int32) : Nat → Int32 → Int32 → Int32
  | 0, _, _ => default
  | n + 1, x2h4, x3h4 => (if v.2.2 ≤ x3h4 then x2h4 else (if (s_X1_holderOf v x3h4) = p1 then (s_X1_hangingAtOnce_L4 v p1 n (x2h4 + 1) (x3h4 + 1)) else (s_X1_hangingAtOnce_L4 v p1 n (x2h4 + 0) (x3h4 + 1))))
def s_X1_hangingAtOnce (v : qBV) (p1 : Int32) : Int32 := (s_X1_hangingAtOnce_L4 v p1 (v.2.2.toInt.toNat + 1) 0 0)
set_option maxHeartbeats 4000000 in
set_option maxRecDepth 20000 in
theorem c_X1_hangingAtOnce (l : Launch) (D : va_G) (cs : qC) {M0 : qM} {N a : Nat} {v : qBV} (hL0 : qLB cs M0 a v) (p1 : Int32) :
    qMet l D cs yX1_hangingAtOnce (qws yX1_hangingAtOnce cX1_hangingAtOnce 4 (some .int)) ({ frames := 2, cells := 0, slots := 0, locals := 42 } : Room) M0 N [.ref a, .int p1] (qRet M0 N (.int (s_X1_hangingAtOnce v p1))) 0 0 := by
  obtain ⟨R, hR⟩ : ∃ R, s_X1_hangingAtOnce v p1 = R := ⟨_, rfl⟩
  rw [hR]
  rw [s_X1_hangingAtOnce] at hR
  refine q_head (by decide +kernel) ?_ (Nat.le_of_ble_eq_true rfl)
  intro p e s m below meth c ls hx hb hret hlk hml hown hnm hg hK hN hI hl
  have hl : lv_has ls 4 [(0, .ref a), (1, .int p1)] := hl
  refine lv_iconst (v := 0) hx hb dX1_hangingAtOnce_0 (by decide) ?_
  refine lv_istore_n (lv' := [(2, .int 0), (0, .ref a), (1, .int p1)]) hx hb dX1_hangingAtOnce_1 rfl hl (by decide) rfl (fun ls hl => ?_)
  refine lv_iconst (v := 0) hx hb dX1_hangingAtOnce_2 (by decide) ?_
  refine lv_istore_n (lv' := [(3, .int 0), (2, .int 0), (0, .ref a), (1, .int p1)]) hx hb dX1_hangingAtOnce_3 rfl hl (by decide) rfl (fun ls hl => ?_)
  have loop4 : ∀ (n4 : Nat) (x2h4 : Int32) (x3h4 : Int32), qmu v.2.2 x3h4 < n4 → s_X1_hangingAtOnce_L4 v p1 n4 x2h4 x3h4 = R → ∀ (H : Heap) (locs : List Loc) (ls : Array Slot), qI D M0 s.heap M0 N H locs → lv_has ls 4 [(0, .ref a), (1, .int p1), (2, .int x2h4), (3, .int x3h4)] →
      W p l e ({ frames := 2, cells := 0, slots := 0, locals := 42 } : Room) s m [Value.ref a, Value.int p1].toArray below meth c H locs 0 0 (MQ below (qQ D M0 N (qRet M0 N (.int R))) [Value.ref a, Value.int p1].toArray s 0 0 (qA M0 N)) (F0 m 4 ls []) := by
    intro n4
    induction n4 with
    | zero => intro x2h4 x3h4 hm; exact absurd hm (Nat.not_lt_zero _)
    | succ n4 ih4 =>
      intro x2h4 x3h4 hm4 hR H locs ls  hI hl
      rw [s_X1_hangingAtOnce_L4] at hR
      refine lv_iload_n hx hb dX1_hangingAtOnce_4 rfl (lv_at hl 3 rfl) ?_
      refine lv_aload_n hx hb dX1_hangingAtOnce_5 rfl (lv_at hl 0 rfl) ?_
      refine q_get hx hb hg in_X1 hown hK hI hL0.1 rfl 2 (by decide) (hg _ wf_X1_18) (fun _ h9 => h9) rfl dX1_hangingAtOnce_6 ?_
      refine lv_icmp_ge (tgt := 35) hx hb dX1_hangingAtOnce_9 (by decide) (fun c1 => ?_) (fun c1 => ?_)
      · rw [if_pos c1] at hR
        refine lv_iload_n hx hb dX1_hangingAtOnce_35 rfl (lv_at hl 2 rfl) ?_
        exact q_iret hx hb hret hlk hN hI (by subst hR; exact ⟨rfl, rfl, rfl⟩) dX1_hangingAtOnce_36
      · rw [if_neg c1] at hR
        refine lv_iload_n hx hb dX1_hangingAtOnce_12 rfl (lv_at hl 2 rfl) ?_
        refine lv_aload_n hx hb dX1_hangingAtOnce_13 rfl (lv_at hl 0 rfl) ?_
        refine lv_iload_n hx hb dX1_hangingAtOnce_14 rfl (lv_at hl 3 rfl) ?_
        refine q_goR (q_runV (As := [.int x3h4]) (rest := [.int x2h4]) hx hb hml hown hg (c_X1_holderOf l D cs hL0 x3h4) v_X1_holderOf wl_X1_48 rfl rfl ⟨Nat.le_of_ble_eq_true rfl, Nat.le_of_ble_eq_true rfl⟩ hI hK 2 hL0.1 rfl hl.1 rfl rfl (Nat.le_of_ble_eq_true rfl) dX1_hangingAtOnce_15 ⟨Nat.le_of_ble_eq_true rfl, Nat.le_of_ble_eq_true rfl⟩) hI (fun H locs hI => ?_)
        refine lv_iload_n hx hb dX1_hangingAtOnce_18 rfl (lv_at hl 1 rfl) ?_
        refine lv_icmp_ne (tgt := 26) hx hb dX1_hangingAtOnce_19 (by decide) (fun c2 => ?_) (fun c2 => ?_)
        · rw [if_neg c2] at hR
          refine lv_iconst (v := 0) hx hb dX1_hangingAtOnce_26 (by decide) ?_
          refine lv_iadd hx hb dX1_hangingAtOnce_27 ?_
          refine lv_istore_n (lv' := [(2, .int (x2h4 + 0)), (0, .ref a), (1, .int p1), (3, .int x3h4)]) hx hb dX1_hangingAtOnce_28 rfl hl (by decide) rfl (fun ls hl => ?_)
          refine lv_iinc (v := x3h4 + 1) (lv' := [(3, .int (x3h4 + 1)), (2, .int (x2h4 + 0)), (0, .ref a), (1, .int p1)]) hx hb dX1_hangingAtOnce_29 hl (k := 3) rfl rfl (by decide) rfl (fun ls hl => ?_)
          refine lv_goto (tgt := 4) hx hb dX1_hangingAtOnce_32 (by decide) ?_
          exact ih4 (x2h4 + 0) (x3h4 + 1) (q_mu c1 hm4) hR _ _ _  hI (lv_sub hl [2, 3, 1, 0] rfl)
        · rw [if_pos c2] at hR
          refine lv_iconst (v := 1) hx hb dX1_hangingAtOnce_22 (by decide) ?_
          refine lv_goto (tgt := 27) hx hb dX1_hangingAtOnce_23 (by decide) ?_
          refine lv_iadd hx hb dX1_hangingAtOnce_27 ?_
          refine lv_istore_n (lv' := [(2, .int (x2h4 + 1)), (0, .ref a), (1, .int p1), (3, .int x3h4)]) hx hb dX1_hangingAtOnce_28 rfl hl (by decide) rfl (fun ls hl => ?_)
          refine lv_iinc (v := x3h4 + 1) (lv' := [(3, .int (x3h4 + 1)), (2, .int (x2h4 + 1)), (0, .ref a), (1, .int p1)]) hx hb dX1_hangingAtOnce_29 hl (k := 3) rfl rfl (by decide) rfl (fun ls hl => ?_)
          refine lv_goto (tgt := 4) hx hb dX1_hangingAtOnce_32 (by decide) ?_
          exact ih4 (x2h4 + 1) (x3h4 + 1) (q_mu c1 hm4) hR _ _ _  hI (lv_sub hl [2, 3, 1, 0] rfl)
  exact loop4 _ 0 0 (q_fuel _) hR _ _ _  hI (lv_sub hl [2, 3, 1, 0] rfl)
def s_X1_hangingInAll_L4 (v : qBV) (p1 : Int32) : Nat → Int32 → Int32 → Int32
  | 0, _, _ => default
  | n + 1, x2h4, x3h4 => (if v.2.2 ≤ x3h4 then x2h4 else (if x3h4 = p1 then (s_X1_hangingInAll_L4 v p1 n (x2h4 + 0) (x3h4 + 1)) else (if (qbi (s_X10_isAlong v.2.1 x3h4 p1)) = 0 then (s_X1_hangingInAll_L4 v p1 n (x2h4 + 0) (x3h4 + 1)) else (s_X1_hangingInAll_L4 v p1 n (x2h4 + 1) (x3h4 + 1)))))
def s_X1_hangingInAll (v : qBV) (p1 : Int32) : Int32 := (s_X1_hangingInAll_L4 v p1 (v.2.2.toInt.toNat + 1) 0 0)
set_option maxHeartbeats 4000000 in
set_option maxRecDepth 20000 in
theorem c_X1_hangingInAll (l : Launch) (D : va_G) (cs : qC) {M0 : qM} {N a : Nat} {v : qBV} (hL0 : qLB cs M0 a v) (p1 : Int32) :
    qMet l D cs yX1_hangingInAll (qws yX1_hangingInAll cX1_hangingInAll 4 (some .int)) ({ frames := 2, cells := 0, slots := 0, locals := 45 } : Room) M0 N [.ref a, .int p1] (qRet M0 N (.int (s_X1_hangingInAll v p1))) 0 0 := by
  obtain ⟨R, hR⟩ : ∃ R, s_X1_hangingInAll v p1 = R := ⟨_, rfl⟩
  rw [hR]
  rw [s_X1_hangingInAll] at hR
  refine q_head (by decide +kernel) ?_ (Nat.le_of_ble_eq_true rfl)
  intro p e s m below meth c ls hx hb hret hlk hml hown hnm hg hK hN hI hl
  have hl : lv_has ls 4 [(0, .ref a), (1, .int p1)] := hl
  refine lv_iconst (v := 0) hx hb dX1_hangingInAll_0 (by decide) ?_
  refine lv_istore_n (lv' := [(2, .int 0), (0, .ref a), (1, .int p1)]) hx hb dX1_hangingInAll_1 rfl hl (by decide) rfl (fun ls hl => ?_)
  refine lv_iconst (v := 0) hx hb dX1_hangingInAll_2 (by decide) ?_
  refine lv_istore_n (lv' := [(3, .int 0), (2, .int 0), (0, .ref a), (1, .int p1)]) hx hb dX1_hangingInAll_3 rfl hl (by decide) rfl (fun ls hl => ?_)
  have loop4 : ∀ (n4 : Nat) (x2h4 : Int32) (x3h4 : Int32), qmu v.2.2 x3h4 < n4 → s_X1_hangingInAll_L4 v p1 n4 x2h4 x3h4 = R → ∀ (H : Heap) (locs : List Loc) (ls : Array Slot), qI D M0 s.heap M0 N H locs → lv_has ls 4 [(0, .ref a), (1, .int p1), (2, .int x2h4), (3, .int x3h4)] →
      W p l e ({ frames := 2, cells := 0, slots := 0, locals := 45 } : Room) s m [Value.ref a, Value.int p1].toArray below meth c H locs 0 0 (MQ below (qQ D M0 N (qRet M0 N (.int R))) [Value.ref a, Value.int p1].toArray s 0 0 (qA M0 N)) (F0 m 4 ls []) := by
    intro n4
    induction n4 with
    | zero => intro x2h4 x3h4 hm; exact absurd hm (Nat.not_lt_zero _)
    | succ n4 ih4 =>
      intro x2h4 x3h4 hm4 hR H locs ls  hI hl
      rw [s_X1_hangingInAll_L4] at hR
      refine lv_iload_n hx hb dX1_hangingInAll_4 rfl (lv_at hl 3 rfl) ?_
      refine lv_aload_n hx hb dX1_hangingInAll_5 rfl (lv_at hl 0 rfl) ?_
      refine q_get hx hb hg in_X1 hown hK hI hL0.1 rfl 2 (by decide) (hg _ wf_X1_18) (fun _ h9 => h9) rfl dX1_hangingInAll_6 ?_
      refine lv_icmp_ge (tgt := 43) hx hb dX1_hangingInAll_9 (by decide) (fun c1 => ?_) (fun c1 => ?_)
      · rw [if_pos c1] at hR
        refine lv_iload_n hx hb dX1_hangingInAll_43 rfl (lv_at hl 2 rfl) ?_
        exact q_iret hx hb hret hlk hN hI (by subst hR; exact ⟨rfl, rfl, rfl⟩) dX1_hangingInAll_44
      · rw [if_neg c1] at hR
        refine lv_iload_n hx hb dX1_hangingInAll_12 rfl (lv_at hl 2 rfl) ?_
        refine lv_iload_n hx hb dX1_hangingInAll_13 rfl (lv_at hl 3 rfl) ?_
        refine lv_iload_n hx hb dX1_hangingInAll_14 rfl (lv_at hl 1 rfl) ?_
        refine lv_icmp_eq (tgt := 34) hx hb dX1_hangingInAll_15 (by decide) (fun c2 => ?_) (fun c2 => ?_)
        · rw [if_pos c2] at hR
          refine lv_iconst (v := 0) hx hb dX1_hangingInAll_34 (by decide) ?_
          refine lv_iadd hx hb dX1_hangingInAll_35 ?_
          refine lv_istore_n (lv' := [(2, .int (x2h4 + 0)), (0, .ref a), (1, .int p1), (3, .int x3h4)]) hx hb dX1_hangingInAll_36 rfl hl (by decide) rfl (fun ls hl => ?_)
          refine lv_iinc (v := x3h4 + 1) (lv' := [(3, .int (x3h4 + 1)), (2, .int (x2h4 + 0)), (0, .ref a), (1, .int p1)]) hx hb dX1_hangingInAll_37 hl (k := 3) rfl rfl (by decide) rfl (fun ls hl => ?_)
          refine lv_goto (tgt := 4) hx hb dX1_hangingInAll_40 (by decide) ?_
          exact ih4 (x2h4 + 0) (x3h4 + 1) (q_mu c1 hm4) hR _ _ _  hI (lv_sub hl [2, 3, 1, 0] rfl)
        · rw [if_neg c2] at hR
          refine lv_aload_n hx hb dX1_hangingInAll_18 rfl (lv_at hl 0 rfl) ?_
          refine q_get hx hb hg in_X1 hown hK hI hL0.1 rfl 1 (by decide) (hg _ wf_X1_15) (fun _ h9 => h9) rfl dX1_hangingInAll_19 ?_
          refine lv_iload_n hx hb dX1_hangingInAll_22 rfl (lv_at hl 3 rfl) ?_
          refine lv_iload_n hx hb dX1_hangingInAll_23 rfl (lv_at hl 1 rfl) ?_
          refine q_goR (q_runSN (As := [.ref (a + 2), .int x3h4, .int p1]) (rest := [.int x2h4]) hx hb hml hown hg (c_X10_isAlong l D cs hL0.2.2 x3h4 p1) v_X10_isAlong (hK.2 _ (List.mem_of_getElem? (i := 44) rfl)) rfl rfl ⟨Nat.le_of_ble_eq_true rfl, Nat.le_of_ble_eq_true rfl⟩ hI hK hl.1 rfl rfl (Nat.le_of_ble_eq_true rfl) dX1_hangingInAll_24 ⟨Nat.le_of_ble_eq_true rfl, Nat.le_of_ble_eq_true rfl⟩) hI (fun H locs hI => ?_)
          refine lv_if_eq (tgt := 34) hx hb dX1_hangingInAll_27 (by decide) (fun c3 => ?_) (fun c3 => ?_)
          · rw [if_pos c3] at hR
            refine lv_iconst (v := 0) hx hb dX1_hangingInAll_34 (by decide) ?_
            refine lv_iadd hx hb dX1_hangingInAll_35 ?_
            refine lv_istore_n (lv' := [(2, .int (x2h4 + 0)), (0, .ref a), (1, .int p1), (3, .int x3h4)]) hx hb dX1_hangingInAll_36 rfl hl (by decide) rfl (fun ls hl => ?_)
            refine lv_iinc (v := x3h4 + 1) (lv' := [(3, .int (x3h4 + 1)), (2, .int (x2h4 + 0)), (0, .ref a), (1, .int p1)]) hx hb dX1_hangingInAll_37 hl (k := 3) rfl rfl (by decide) rfl (fun ls hl => ?_)
            refine lv_goto (tgt := 4) hx hb dX1_hangingInAll_40 (by decide) ?_
            exact ih4 (x2h4 + 0) (x3h4 + 1) (q_mu c1 hm4) hR _ _ _  hI (lv_sub hl [2, 3, 1, 0] rfl)
          · rw [if_neg c3] at hR
            refine lv_iconst (v := 1) hx hb dX1_hangingInAll_30 (by decide) ?_
            refine lv_goto (tgt := 35) hx hb dX1_hangingInAll_31 (by decide) ?_
            refine lv_iadd hx hb dX1_hangingInAll_35 ?_
            refine lv_istore_n (lv' := [(2, .int (x2h4 + 1)), (0, .ref a), (1, .int p1), (3, .int x3h4)]) hx hb dX1_hangingInAll_36 rfl hl (by decide) rfl (fun ls hl => ?_)
            refine lv_iinc (v := x3h4 + 1) (lv' := [(3, .int (x3h4 + 1)), (2, .int (x2h4 + 1)), (0, .ref a), (1, .int p1)]) hx hb dX1_hangingInAll_37 hl (k := 3) rfl rfl (by decide) rfl (fun ls hl => ?_)
            refine lv_goto (tgt := 4) hx hb dX1_hangingInAll_40 (by decide) ?_
            exact ih4 (x2h4 + 1) (x3h4 + 1) (q_mu c1 hm4) hR _ _ _  hI (lv_sub hl [2, 3, 1, 0] rfl)
  exact loop4 _ 0 0 (q_fuel _) hR _ _ _  hI (lv_sub hl [2, 3, 1, 0] rfl)
def s_X1_sizeOfHang (v : qBV) (p1 : Int32) : Int32 := (s_X1_hangingInAll v (s_X1_rootByHolders v p1)) + 1
set_option maxHeartbeats 4000000 in
set_option maxRecDepth 20000 in
theorem c_X1_sizeOfHang (l : Launch) (D : va_G) (cs : qC) {M0 : qM} {N a : Nat} {v : qBV} (hL0 : qLB cs M0 a v) (p1 : Int32) :
    qMet l D cs yX1_sizeOfHang (qws yX1_sizeOfHang cX1_sizeOfHang 2 (some .int)) ({ frames := 3, cells := 0, slots := 0, locals := 68 } : Room) M0 N [.ref a, .int p1] (qRet M0 N (.int (s_X1_sizeOfHang v p1))) 0 0 := by
  obtain ⟨R, hR⟩ : ∃ R, s_X1_sizeOfHang v p1 = R := ⟨_, rfl⟩
  rw [hR]
  rw [s_X1_sizeOfHang] at hR
  refine q_head (by decide +kernel) ?_ (Nat.le_of_ble_eq_true rfl)
  intro p e s m below meth c ls hx hb hret hlk hml hown hnm hg hK hN hI hl
  have hl : lv_has ls 2 [(0, .ref a), (1, .int p1)] := hl
  refine lv_aload_n hx hb dX1_sizeOfHang_0 rfl (lv_at hl 0 rfl) ?_
  refine lv_aload_n hx hb dX1_sizeOfHang_1 rfl (lv_at hl 0 rfl) ?_
  refine lv_iload_n hx hb dX1_sizeOfHang_2 rfl (lv_at hl 1 rfl) ?_
  refine q_goR (q_runV (As := [.int p1]) (rest := [.ref a]) hx hb hml hown hg (c_X1_rootByHolders l D cs hL0 p1) v_X1_rootByHolders wl_X1_55 rfl rfl ⟨Nat.le_of_ble_eq_true rfl, Nat.le_of_ble_eq_true rfl⟩ hI hK 2 hL0.1 rfl hl.1 rfl rfl (Nat.le_of_ble_eq_true rfl) dX1_sizeOfHang_3 ⟨Nat.le_of_ble_eq_true rfl, Nat.le_of_ble_eq_true rfl⟩) hI (fun H locs hI => ?_)
  refine q_goR (q_runV (As := [.int (s_X1_rootByHolders v p1)]) (rest := []) hx hb hml hown hg (c_X1_hangingInAll l D cs hL0 (s_X1_rootByHolders v p1)) v_X1_hangingInAll wl_X1_58 rfl rfl ⟨Nat.le_of_ble_eq_true rfl, Nat.le_of_ble_eq_true rfl⟩ hI hK 2 hL0.1 rfl hl.1 rfl rfl (Nat.le_of_ble_eq_true rfl) dX1_sizeOfHang_6 ⟨Nat.le_of_ble_eq_true rfl, Nat.le_of_ble_eq_true rfl⟩) hI (fun H locs hI => ?_)
  refine lv_iconst (v := 1) hx hb dX1_sizeOfHang_9 (by decide) ?_
  refine lv_iadd hx hb dX1_sizeOfHang_10 ?_
  exact q_iret hx hb hret hlk hN hI (by subst hR; exact ⟨rfl, rfl, rfl⟩) dX1_sizeOfHang_11
def s_X1_countRoots (v : qBV)  : Int32 := s_X1_hangingAtOnce v (-1)
set_option maxHeartbeats 4000000 in
set_option maxRecDepth 20000 in
theorem c_X1_countRoots (l : Launch) (D : va_G) (cs : qC) {M0 : qM} {N a : Nat} {v : qBV} (hL0 : qLB cs M0 a v) :
    qMet l D cs yX1_countRoots (qws yX1_countRoots cX1_countRoots 1 (some .int)) ({ frames := 3, cells := 0, slots := 0, locals := 65 } : Room) M0 N [.ref a] (qRet M0 N (.int (s_X1_countRoots v))) 0 0 := by
  obtain ⟨R, hR⟩ : ∃ R, s_X1_countRoots v = R := ⟨_, rfl⟩
  rw [hR]
  rw [s_X1_countRoots] at hR
  refine q_head (by decide +kernel) ?_ (Nat.le_of_ble_eq_true rfl)
  intro p e s m below meth c ls hx hb hret hlk hml hown hnm hg hK hN hI hl
  have hl : lv_has ls 1 [(0, .ref a)] := hl
  refine lv_aload_n hx hb dX1_countRoots_0 rfl (lv_at hl 0 rfl) ?_
  refine lv_iconst (v := (-1)) hx hb dX1_countRoots_1 (by decide) ?_
  refine q_goR (q_runV (As := [.int (-1)]) (rest := []) hx hb hml hown hg (c_X1_hangingAtOnce l D cs hL0 (-1)) v_X1_hangingAtOnce wl_X1_61 rfl rfl ⟨Nat.le_of_ble_eq_true rfl, Nat.le_of_ble_eq_true rfl⟩ hI hK 2 hL0.1 rfl hl.1 rfl rfl (Nat.le_of_ble_eq_true rfl) dX1_countRoots_2 ⟨Nat.le_of_ble_eq_true rfl, Nat.le_of_ble_eq_true rfl⟩) hI (fun H locs hI => ?_)
  exact q_iret hx hb hret hlk hN hI (by subst hR; exact ⟨rfl, rfl, rfl⟩) dX1_countRoots_5
def s_X1_sumOfDepths_L4 (v : qBV) : Nat → Int32 → Int32 → Int32
  | 0, _, _ => default
  | n + 1, x1h4, x2h4 => (if v.2.2 ≤ x2h4 then x1h4 else (s_X1_sumOfDepths_L4 v n (x1h4 + (s_X1_depthOf v x2h4)) (x2h4 + 1)))
def s_X1_sumOfDepths (v : qBV)  : Int32 := (s_X1_sumOfDepths_L4 v (v.2.2.toInt.toNat + 1) 0 0)
set_option maxHeartbeats 4000000 in
set_option maxRecDepth 20000 in
theorem c_X1_sumOfDepths (l : Launch) (D : va_G) (cs : qC) {M0 : qM} {N a : Nat} {v : qBV} (hL0 : qLB cs M0 a v) :
    qMet l D cs yX1_sumOfDepths (qws yX1_sumOfDepths cX1_sumOfDepths 3 (some .int)) ({ frames := 3, cells := 0, slots := 0, locals := 65 } : Room) M0 N [.ref a] (qRet M0 N (.int (s_X1_sumOfDepths v))) 0 0 := by
  obtain ⟨R, hR⟩ : ∃ R, s_X1_sumOfDepths v = R := ⟨_, rfl⟩
  rw [hR]
  rw [s_X1_sumOfDepths] at hR
  refine q_head (by decide +kernel) ?_ (Nat.le_of_ble_eq_true rfl)
  intro p e s m below meth c ls hx hb hret hlk hml hown hnm hg hK hN hI hl
  have hl : lv_has ls 3 [(0, .ref a)] := hl
  refine lv_iconst (v := 0) hx hb dX1_sumOfDepths_0 (by decide) ?_
  refine lv_istore_n (lv' := [(1, .int 0), (0, .ref a)]) hx hb dX1_sumOfDepths_1 rfl hl (by decide) rfl (fun ls hl => ?_)
  refine lv_iconst (v := 0) hx hb dX1_sumOfDepths_2 (by decide) ?_
  refine lv_istore_n (lv' := [(2, .int 0), (1, .int 0), (0, .ref a)]) hx hb dX1_sumOfDepths_3 rfl hl (by decide) rfl (fun ls hl => ?_)
  have loop4 : ∀ (n4 : Nat) (x1h4 : Int32) (x2h4 : Int32), qmu v.2.2 x2h4 < n4 → s_X1_sumOfDepths_L4 v n4 x1h4 x2h4 = R → ∀ (H : Heap) (locs : List Loc) (ls : Array Slot), qI D M0 s.heap M0 N H locs → lv_has ls 3 [(0, .ref a), (1, .int x1h4), (2, .int x2h4)] →
      W p l e ({ frames := 3, cells := 0, slots := 0, locals := 65 } : Room) s m [Value.ref a].toArray below meth c H locs 0 0 (MQ below (qQ D M0 N (qRet M0 N (.int R))) [Value.ref a].toArray s 0 0 (qA M0 N)) (F0 m 4 ls []) := by
    intro n4
    induction n4 with
    | zero => intro x1h4 x2h4 hm; exact absurd hm (Nat.not_lt_zero _)
    | succ n4 ih4 =>
      intro x1h4 x2h4 hm4 hR H locs ls  hI hl
      rw [s_X1_sumOfDepths_L4] at hR
      refine lv_iload_n hx hb dX1_sumOfDepths_4 rfl (lv_at hl 2 rfl) ?_
      refine lv_aload_n hx hb dX1_sumOfDepths_5 rfl (lv_at hl 0 rfl) ?_
      refine q_get hx hb hg in_X1 hown hK hI hL0.1 rfl 2 (by decide) (hg _ wf_X1_18) (fun _ h9 => h9) rfl dX1_sumOfDepths_6 ?_
      refine lv_icmp_ge (tgt := 26) hx hb dX1_sumOfDepths_9 (by decide) (fun c1 => ?_) (fun c1 => ?_)
      · rw [if_pos c1] at hR
        refine lv_iload_n hx hb dX1_sumOfDepths_26 rfl (lv_at hl 1 rfl) ?_
        exact q_iret hx hb hret hlk hN hI (by subst hR; exact ⟨rfl, rfl, rfl⟩) dX1_sumOfDepths_27
      · rw [if_neg c1] at hR
        refine lv_iload_n hx hb dX1_sumOfDepths_12 rfl (lv_at hl 1 rfl) ?_
        refine lv_aload_n hx hb dX1_sumOfDepths_13 rfl (lv_at hl 0 rfl) ?_
        refine lv_iload_n hx hb dX1_sumOfDepths_14 rfl (lv_at hl 2 rfl) ?_
        refine q_goR (q_runV (As := [.int x2h4]) (rest := [.int x1h4]) hx hb hml hown hg (c_X1_depthOf l D cs hL0 x2h4) v_X1_depthOf wl_X1_64 rfl rfl ⟨Nat.le_of_ble_eq_true rfl, Nat.le_of_ble_eq_true rfl⟩ hI hK 2 hL0.1 rfl hl.1 rfl rfl (Nat.le_of_ble_eq_true rfl) dX1_sumOfDepths_15 ⟨Nat.le_of_ble_eq_true rfl, Nat.le_of_ble_eq_true rfl⟩) hI (fun H locs hI => ?_)
        refine lv_iadd hx hb dX1_sumOfDepths_18 ?_
        refine lv_istore_n (lv' := [(1, .int (x1h4 + (s_X1_depthOf v x2h4))), (0, .ref a), (2, .int x2h4)]) hx hb dX1_sumOfDepths_19 rfl hl (by decide) rfl (fun ls hl => ?_)
        refine lv_iinc (v := x2h4 + 1) (lv' := [(2, .int (x2h4 + 1)), (1, .int (x1h4 + (s_X1_depthOf v x2h4))), (0, .ref a)]) hx hb dX1_sumOfDepths_20 hl (k := 2) rfl rfl (by decide) rfl (fun ls hl => ?_)
        refine lv_goto (tgt := 4) hx hb dX1_sumOfDepths_23 (by decide) ?_
        exact ih4 (x1h4 + (s_X1_depthOf v x2h4)) (x2h4 + 1) (q_mu c1 hm4) hR _ _ _  hI (lv_sub hl [2, 1, 0] rfl)
  exact loop4 _ 0 0 (q_fuel _) hR _ _ _  hI (lv_sub hl [2, 1, 0] rfl)
def s_X1_sumOfWeights_L4 (v : qBV) : Nat → Int32 → Int32 → Int32
  | 0, _, _ => default
  | n + 1, x1h4, x2h4 => (if v.2.2 ≤ x2h4 then x1h4 else (s_X1_sumOfWeights_L4 v n (x1h4 + (s_X1_weightOf v x2h4)) (x2h4 + 1)))
def s_X1_sumOfWeights (v : qBV)  : Int32 := (s_X1_sumOfWeights_L4 v (v.2.2.toInt.toNat + 1) 0 0)
set_option maxHeartbeats 4000000 in
set_option maxRecDepth 20000 in
theorem c_X1_sumOfWeights (l : Launch) (D : va_G) (cs : qC) {M0 : qM} {N a : Nat} {v : qBV} (hL0 : qLB cs M0 a v) :
    qMet l D cs yX1_sumOfWeights (qws yX1_sumOfWeights cX1_sumOfWeights 3 (some .int)) ({ frames := 2, cells := 0, slots := 0, locals := 42 } : Room) M0 N [.ref a] (qRet M0 N (.int (s_X1_sumOfWeights v))) 0 0 := by
  obtain ⟨R, hR⟩ : ∃ R, s_X1_sumOfWeights v = R := ⟨_, rfl⟩
  rw [hR]
  rw [s_X1_sumOfWeights] at hR
  refine q_head (by decide +kernel) ?_ (Nat.le_of_ble_eq_true rfl)
  intro p e s m below meth c ls hx hb hret hlk hml hown hnm hg hK hN hI hl
  have hl : lv_has ls 3 [(0, .ref a)] := hl
  refine lv_iconst (v := 0) hx hb dX1_sumOfWeights_0 (by decide) ?_
  refine lv_istore_n (lv' := [(1, .int 0), (0, .ref a)]) hx hb dX1_sumOfWeights_1 rfl hl (by decide) rfl (fun ls hl => ?_)
  refine lv_iconst (v := 0) hx hb dX1_sumOfWeights_2 (by decide) ?_
  refine lv_istore_n (lv' := [(2, .int 0), (1, .int 0), (0, .ref a)]) hx hb dX1_sumOfWeights_3 rfl hl (by decide) rfl (fun ls hl => ?_)
  have loop4 : ∀ (n4 : Nat) (x1h4 : Int32) (x2h4 : Int32), qmu v.2.2 x2h4 < n4 → s_X1_sumOfWeights_L4 v n4 x1h4 x2h4 = R → ∀ (H : Heap) (locs : List Loc) (ls : Array Slot), qI D M0 s.heap M0 N H locs → lv_has ls 3 [(0, .ref a), (1, .int x1h4), (2, .int x2h4)] →
      W p l e ({ frames := 2, cells := 0, slots := 0, locals := 42 } : Room) s m [Value.ref a].toArray below meth c H locs 0 0 (MQ below (qQ D M0 N (qRet M0 N (.int R))) [Value.ref a].toArray s 0 0 (qA M0 N)) (F0 m 4 ls []) := by
    intro n4
    induction n4 with
    | zero => intro x1h4 x2h4 hm; exact absurd hm (Nat.not_lt_zero _)
    | succ n4 ih4 =>
      intro x1h4 x2h4 hm4 hR H locs ls  hI hl
      rw [s_X1_sumOfWeights_L4] at hR
      refine lv_iload_n hx hb dX1_sumOfWeights_4 rfl (lv_at hl 2 rfl) ?_
      refine lv_aload_n hx hb dX1_sumOfWeights_5 rfl (lv_at hl 0 rfl) ?_
      refine q_get hx hb hg in_X1 hown hK hI hL0.1 rfl 2 (by decide) (hg _ wf_X1_18) (fun _ h9 => h9) rfl dX1_sumOfWeights_6 ?_
      refine lv_icmp_ge (tgt := 26) hx hb dX1_sumOfWeights_9 (by decide) (fun c1 => ?_) (fun c1 => ?_)
      · rw [if_pos c1] at hR
        refine lv_iload_n hx hb dX1_sumOfWeights_26 rfl (lv_at hl 1 rfl) ?_
        exact q_iret hx hb hret hlk hN hI (by subst hR; exact ⟨rfl, rfl, rfl⟩) dX1_sumOfWeights_27
      · rw [if_neg c1] at hR
        refine lv_iload_n hx hb dX1_sumOfWeights_12 rfl (lv_at hl 1 rfl) ?_
        refine lv_aload_n hx hb dX1_sumOfWeights_13 rfl (lv_at hl 0 rfl) ?_
        refine lv_iload_n hx hb dX1_sumOfWeights_14 rfl (lv_at hl 2 rfl) ?_
        refine q_goR (q_runV (As := [.int x2h4]) (rest := [.int x1h4]) hx hb hml hown hg (c_X1_weightOf l D cs hL0 x2h4) v_X1_weightOf wl_X1_44 rfl rfl ⟨Nat.le_of_ble_eq_true rfl, Nat.le_of_ble_eq_true rfl⟩ hI hK 2 hL0.1 rfl hl.1 rfl rfl (Nat.le_of_ble_eq_true rfl) dX1_sumOfWeights_15 ⟨Nat.le_of_ble_eq_true rfl, Nat.le_of_ble_eq_true rfl⟩) hI (fun H locs hI => ?_)
        refine lv_iadd hx hb dX1_sumOfWeights_18 ?_
        refine lv_istore_n (lv' := [(1, .int (x1h4 + (s_X1_weightOf v x2h4))), (0, .ref a), (2, .int x2h4)]) hx hb dX1_sumOfWeights_19 rfl hl (by decide) rfl (fun ls hl => ?_)
        refine lv_iinc (v := x2h4 + 1) (lv' := [(2, .int (x2h4 + 1)), (1, .int (x1h4 + (s_X1_weightOf v x2h4))), (0, .ref a)]) hx hb dX1_sumOfWeights_20 hl (k := 2) rfl rfl (by decide) rfl (fun ls hl => ?_)
        refine lv_goto (tgt := 4) hx hb dX1_sumOfWeights_23 (by decide) ?_
        exact ih4 (x1h4 + (s_X1_weightOf v x2h4)) (x2h4 + 1) (q_mu c1 hm4) hR _ _ _  hI (lv_sub hl [2, 1, 0] rfl)
  exact loop4 _ 0 0 (q_fuel _) hR _ _ _  hI (lv_sub hl [2, 1, 0] rfl)
def s_X1_isBefore (v : qBV) (p1 : Int32) (p2 : Int32) : Bool := (if (s_X1_weightOf v p1) = (s_X1_weightOf v p2) then (if (s_X1_depthOf v p1) = (s_X1_depthOf v p2) then (if p2 ≤ p1 then false else true) else (if (s_X1_depthOf v p2) ≤ (s_X1_depthOf v p1) then false else true)) else (if (s_X1_weightOf v p1) ≤ (s_X1_weightOf v p2) then false else true))
set_option maxHeartbeats 4000000 in
set_option maxRecDepth 20000 in
theorem c_X1_isBefore (l : Launch) (D : va_G) (cs : qC) {M0 : qM} {N a : Nat} {v : qBV} (hL0 : qLB cs M0 a v) (p1 : Int32) (p2 : Int32) :
    qMet l D cs yX1_isBefore (qws yX1_isBefore cX1_isBefore 5 (some .boolean)) ({ frames := 3, cells := 0, slots := 0, locals := 65 } : Room) M0 N [.ref a, .int p1, .int p2] (qRet M0 N (.int (qbi (s_X1_isBefore v p1 p2)))) 0 0 := by
  obtain ⟨R, hR⟩ : ∃ R, s_X1_isBefore v p1 p2 = R := ⟨_, rfl⟩
  rw [hR]
  rw [s_X1_isBefore] at hR
  refine q_head (by decide +kernel) ?_ (Nat.le_of_ble_eq_true rfl)
  intro p e s m below meth c ls hx hb hret hlk hml hown hnm hg hK hN hI hl
  have hl : lv_has ls 5 [(0, .ref a), (1, .int p1), (2, .int p2)] := hl
  refine lv_aload_n hx hb dX1_isBefore_0 rfl (lv_at hl 0 rfl) ?_
  refine lv_iload_n hx hb dX1_isBefore_1 rfl (lv_at hl 1 rfl) ?_
  refine q_goR (q_runV (As := [.int p1]) (rest := []) hx hb hml hown hg (c_X1_weightOf l D cs hL0 p1) v_X1_weightOf wl_X1_44 rfl rfl ⟨Nat.le_of_ble_eq_true rfl, Nat.le_of_ble_eq_true rfl⟩ hI hK 2 hL0.1 rfl hl.1 rfl rfl (Nat.le_of_ble_eq_true rfl) dX1_isBefore_2 ⟨Nat.le_of_ble_eq_true rfl, Nat.le_of_ble_eq_true rfl⟩) hI (fun H locs hI => ?_)
  refine lv_aload_n hx hb dX1_isBefore_5 rfl (lv_at hl 0 rfl) ?_
  refine lv_iload_n hx hb dX1_isBefore_6 rfl (lv_at hl 2 rfl) ?_
  refine q_goR (q_runV (As := [.int p2]) (rest := [.int (s_X1_weightOf v p1)]) hx hb hml hown hg (c_X1_weightOf l D cs hL0 p2) v_X1_weightOf wl_X1_44 rfl rfl ⟨Nat.le_of_ble_eq_true rfl, Nat.le_of_ble_eq_true rfl⟩ hI hK 2 hL0.1 rfl hl.1 rfl rfl (Nat.le_of_ble_eq_true rfl) dX1_isBefore_7 ⟨Nat.le_of_ble_eq_true rfl, Nat.le_of_ble_eq_true rfl⟩) hI (fun H locs hI => ?_)
  refine lv_icmp_eq (tgt := 32) hx hb dX1_isBefore_10 (by decide) (fun c1 => ?_) (fun c1 => ?_)
  · rw [if_pos c1] at hR
    refine lv_aload_n hx hb dX1_isBefore_32 rfl (lv_at hl 0 rfl) ?_
    refine lv_iload_n hx hb dX1_isBefore_33 rfl (lv_at hl 1 rfl) ?_
    refine q_goR (q_runV (As := [.int p1]) (rest := []) hx hb hml hown hg (c_X1_depthOf l D cs hL0 p1) v_X1_depthOf wl_X1_64 rfl rfl ⟨Nat.le_of_ble_eq_true rfl, Nat.le_of_ble_eq_true rfl⟩ hI hK 2 hL0.1 rfl hl.1 rfl rfl (Nat.le_of_ble_eq_true rfl) dX1_isBefore_34 ⟨Nat.le_of_ble_eq_true rfl, Nat.le_of_ble_eq_true rfl⟩) hI (fun H locs hI => ?_)
    refine lv_istore_n (lv' := [(3, .int (s_X1_depthOf v p1)), (0, .ref a), (1, .int p1), (2, .int p2)]) hx hb dX1_isBefore_37 rfl hl (by decide) rfl (fun ls hl => ?_)
    refine lv_aload_n hx hb dX1_isBefore_38 rfl (lv_at hl 1 rfl) ?_
    refine lv_iload_n hx hb dX1_isBefore_39 rfl (lv_at hl 3 rfl) ?_
    refine q_goR (q_runV (As := [.int p2]) (rest := []) hx hb hml hown hg (c_X1_depthOf l D cs hL0 p2) v_X1_depthOf wl_X1_64 rfl rfl ⟨Nat.le_of_ble_eq_true rfl, Nat.le_of_ble_eq_true rfl⟩ hI hK 2 hL0.1 rfl hl.1 rfl rfl (Nat.le_of_ble_eq_true rfl) dX1_isBefore_40 ⟨Nat.le_of_ble_eq_true rfl, Nat.le_of_ble_eq_true rfl⟩) hI (fun H locs hI => ?_)
    refine lv_istore (lv' := [(4, .int (s_X1_depthOf v p2)), (3, .int (s_X1_depthOf v p1)), (0, .ref a), (1, .int p1), (2, .int p2)]) hx hb dX1_isBefore_43 hl (by decide) rfl (fun ls hl => ?_)
    refine lv_iload_n hx hb dX1_isBefore_45 rfl (lv_at hl 1 rfl) ?_
    refine lv_iload hx hb dX1_isBefore_46 (lv_at hl 0 rfl) ?_
    refine lv_icmp_eq (tgt := 65) hx hb dX1_isBefore_48 (by decide) (fun c2 => ?_) (fun c2 => ?_)
    · rw [if_pos c2] at hR
      refine lv_iload_n hx hb dX1_isBefore_65 rfl (lv_at hl 3 rfl) ?_
      refine lv_iload_n hx hb dX1_isBefore_66 rfl (lv_at hl 4 rfl) ?_
      refine lv_icmp_ge (tgt := 74) hx hb dX1_isBefore_67 (by decide) (fun c3 => ?_) (fun c3 => ?_)
      · rw [if_pos c3] at hR
        refine lv_iconst (v := 0) hx hb dX1_isBefore_74 (by decide) ?_
        exact q_zret hx hb hret rfl hlk hN hI (by subst hR; exact ⟨rfl, rfl, rfl⟩) dX1_isBefore_75
      · rw [if_neg c3] at hR
        refine lv_iconst (v := 1) hx hb dX1_isBefore_70 (by decide) ?_
        refine lv_goto (tgt := 75) hx hb dX1_isBefore_71 (by decide) ?_
        exact q_zret hx hb hret rfl hlk hN hI (by subst hR; exact ⟨rfl, rfl, rfl⟩) dX1_isBefore_75
    · rw [if_neg c2] at hR
      refine lv_iload_n hx hb dX1_isBefore_51 rfl (lv_at hl 1 rfl) ?_
      refine lv_iload hx hb dX1_isBefore_52 (lv_at hl 0 rfl) ?_
      refine lv_icmp_ge (tgt := 61) hx hb dX1_isBefore_54 (by decide) (fun c4 => ?_) (fun c4 => ?_)
      · rw [if_pos c4] at hR
        refine lv_iconst (v := 0) hx hb dX1_isBefore_61 (by decide) ?_
        refine lv_goto (tgt := 75) hx hb dX1_isBefore_62 (by decide) ?_
        exact q_zret hx hb hret rfl hlk hN hI (by subst hR; exact ⟨rfl, rfl, rfl⟩) dX1_isBefore_75
      · rw [if_neg c4] at hR
        refine lv_iconst (v := 1) hx hb dX1_isBefore_57 (by decide) ?_
        refine lv_goto (tgt := 75) hx hb dX1_isBefore_58 (by decide) ?_
        exact q_zret hx hb hret rfl hlk hN hI (by subst hR; exact ⟨rfl, rfl, rfl⟩) dX1_isBefore_75
  · rw [if_neg c1] at hR
    refine lv_aload_n hx hb dX1_isBefore_13 rfl (lv_at hl 0 rfl) ?_
    refine lv_iload_n hx hb dX1_isBefore_14 rfl (lv_at hl 1 rfl) ?_
    refine q_goR (q_runV (As := [.int p1]) (rest := []) hx hb hml hown hg (c_X1_weightOf l D cs hL0 p1) v_X1_weightOf wl_X1_44 rfl rfl ⟨Nat.le_of_ble_eq_true rfl, Nat.le_of_ble_eq_true rfl⟩ hI hK 2 hL0.1 rfl hl.1 rfl rfl (Nat.le_of_ble_eq_true rfl) dX1_isBefore_15 ⟨Nat.le_of_ble_eq_true rfl, Nat.le_of_ble_eq_true rfl⟩) hI (fun H locs hI => ?_)
    refine lv_aload_n hx hb dX1_isBefore_18 rfl (lv_at hl 0 rfl) ?_
    refine lv_iload_n hx hb dX1_isBefore_19 rfl (lv_at hl 2 rfl) ?_
    refine q_goR (q_runV (As := [.int p2]) (rest := [.int (s_X1_weightOf v p1)]) hx hb hml hown hg (c_X1_weightOf l D cs hL0 p2) v_X1_weightOf wl_X1_44 rfl rfl ⟨Nat.le_of_ble_eq_true rfl, Nat.le_of_ble_eq_true rfl⟩ hI hK 2 hL0.1 rfl hl.1 rfl rfl (Nat.le_of_ble_eq_true rfl) dX1_isBefore_20 ⟨Nat.le_of_ble_eq_true rfl, Nat.le_of_ble_eq_true rfl⟩) hI (fun H locs hI => ?_)
    refine lv_icmp_le (tgt := 30) hx hb dX1_isBefore_23 (by decide) (fun c5 => ?_) (fun c5 => ?_)
    · rw [if_pos c5] at hR
      refine lv_iconst (v := 0) hx hb dX1_isBefore_30 (by decide) ?_
      exact q_zret hx hb hret rfl hlk hN hI (by subst hR; exact ⟨rfl, rfl, rfl⟩) dX1_isBefore_31
    · rw [if_neg c5] at hR
      refine lv_iconst (v := 1) hx hb dX1_isBefore_26 (by decide) ?_
      refine lv_goto (tgt := 31) hx hb dX1_isBefore_27 (by decide) ?_
      exact q_zret hx hb hret rfl hlk hN hI (by subst hR; exact ⟨rfl, rfl, rfl⟩) dX1_isBefore_31
def s_X1_rankOf_L4 (v : qBV) (p1 : Int32) : Nat → Int32 → Int32 → Int32
  | 0, _, _ => default
  | n + 1, x2h4, x3h4 => (if v.2.2 ≤ x3h4 then x2h4 else (if (qbi (s_X1_isBefore v x3h4 p1)) = 0 then (s_X1_rankOf_L4 v p1 n (x2h4 + 0) (x3h4 + 1)) else (s_X1_rankOf_L4 v p1 n (x2h4 + 1) (x3h4 + 1))))
def s_X1_rankOf (v : qBV) (p1 : Int32) : Int32 := (s_X1_rankOf_L4 v p1 (v.2.2.toInt.toNat + 1) 0 0)
set_option maxHeartbeats 4000000 in
set_option maxRecDepth 20000 in
theorem c_X1_rankOf (l : Launch) (D : va_G) (cs : qC) {M0 : qM} {N a : Nat} {v : qBV} (hL0 : qLB cs M0 a v) (p1 : Int32) :
    qMet l D cs yX1_rankOf (qws yX1_rankOf cX1_rankOf 4 (some .int)) ({ frames := 4, cells := 0, slots := 0, locals := 89 } : Room) M0 N [.ref a, .int p1] (qRet M0 N (.int (s_X1_rankOf v p1))) 0 0 := by
  obtain ⟨R, hR⟩ : ∃ R, s_X1_rankOf v p1 = R := ⟨_, rfl⟩
  rw [hR]
  rw [s_X1_rankOf] at hR
  refine q_head (by decide +kernel) ?_ (Nat.le_of_ble_eq_true rfl)
  intro p e s m below meth c ls hx hb hret hlk hml hown hnm hg hK hN hI hl
  have hl : lv_has ls 4 [(0, .ref a), (1, .int p1)] := hl
  refine lv_iconst (v := 0) hx hb dX1_rankOf_0 (by decide) ?_
  refine lv_istore_n (lv' := [(2, .int 0), (0, .ref a), (1, .int p1)]) hx hb dX1_rankOf_1 rfl hl (by decide) rfl (fun ls hl => ?_)
  refine lv_iconst (v := 0) hx hb dX1_rankOf_2 (by decide) ?_
  refine lv_istore_n (lv' := [(3, .int 0), (2, .int 0), (0, .ref a), (1, .int p1)]) hx hb dX1_rankOf_3 rfl hl (by decide) rfl (fun ls hl => ?_)
  have loop4 : ∀ (n4 : Nat) (x2h4 : Int32) (x3h4 : Int32), qmu v.2.2 x3h4 < n4 → s_X1_rankOf_L4 v p1 n4 x2h4 x3h4 = R → ∀ (H : Heap) (locs : List Loc) (ls : Array Slot), qI D M0 s.heap M0 N H locs → lv_has ls 4 [(0, .ref a), (1, .int p1), (2, .int x2h4), (3, .int x3h4)] →
      W p l e ({ frames := 4, cells := 0, slots := 0, locals := 89 } : Room) s m [Value.ref a, Value.int p1].toArray below meth c H locs 0 0 (MQ below (qQ D M0 N (qRet M0 N (.int R))) [Value.ref a, Value.int p1].toArray s 0 0 (qA M0 N)) (F0 m 4 ls []) := by
    intro n4
    induction n4 with
    | zero => intro x2h4 x3h4 hm; exact absurd hm (Nat.not_lt_zero _)
    | succ n4 ih4 =>
      intro x2h4 x3h4 hm4 hR H locs ls  hI hl
      rw [s_X1_rankOf_L4] at hR
      refine lv_iload_n hx hb dX1_rankOf_4 rfl (lv_at hl 3 rfl) ?_
      refine lv_aload_n hx hb dX1_rankOf_5 rfl (lv_at hl 0 rfl) ?_
      refine q_get hx hb hg in_X1 hown hK hI hL0.1 rfl 2 (by decide) (hg _ wf_X1_18) (fun _ h9 => h9) rfl dX1_rankOf_6 ?_
      refine lv_icmp_ge (tgt := 35) hx hb dX1_rankOf_9 (by decide) (fun c1 => ?_) (fun c1 => ?_)
      · rw [if_pos c1] at hR
        refine lv_iload_n hx hb dX1_rankOf_35 rfl (lv_at hl 2 rfl) ?_
        exact q_iret hx hb hret hlk hN hI (by subst hR; exact ⟨rfl, rfl, rfl⟩) dX1_rankOf_36
      · rw [if_neg c1] at hR
        refine lv_iload_n hx hb dX1_rankOf_12 rfl (lv_at hl 2 rfl) ?_
        refine lv_aload_n hx hb dX1_rankOf_13 rfl (lv_at hl 0 rfl) ?_
        refine lv_iload_n hx hb dX1_rankOf_14 rfl (lv_at hl 3 rfl) ?_
        refine lv_iload_n hx hb dX1_rankOf_15 rfl (lv_at hl 1 rfl) ?_
        refine q_goR (q_runV (As := [.int x3h4, .int p1]) (rest := [.int x2h4]) hx hb hml hown hg (c_X1_isBefore l D cs hL0 x3h4 p1) v_X1_isBefore wl_X1_70 rfl rfl ⟨Nat.le_of_ble_eq_true rfl, Nat.le_of_ble_eq_true rfl⟩ hI hK 2 hL0.1 rfl hl.1 rfl rfl (Nat.le_of_ble_eq_true rfl) dX1_rankOf_16 ⟨Nat.le_of_ble_eq_true rfl, Nat.le_of_ble_eq_true rfl⟩) hI (fun H locs hI => ?_)
        refine lv_if_eq (tgt := 26) hx hb dX1_rankOf_19 (by decide) (fun c2 => ?_) (fun c2 => ?_)
        · rw [if_pos c2] at hR
          refine lv_iconst (v := 0) hx hb dX1_rankOf_26 (by decide) ?_
          refine lv_iadd hx hb dX1_rankOf_27 ?_
          refine lv_istore_n (lv' := [(2, .int (x2h4 + 0)), (0, .ref a), (1, .int p1), (3, .int x3h4)]) hx hb dX1_rankOf_28 rfl hl (by decide) rfl (fun ls hl => ?_)
          refine lv_iinc (v := x3h4 + 1) (lv' := [(3, .int (x3h4 + 1)), (2, .int (x2h4 + 0)), (0, .ref a), (1, .int p1)]) hx hb dX1_rankOf_29 hl (k := 3) rfl rfl (by decide) rfl (fun ls hl => ?_)
          refine lv_goto (tgt := 4) hx hb dX1_rankOf_32 (by decide) ?_
          exact ih4 (x2h4 + 0) (x3h4 + 1) (q_mu c1 hm4) hR _ _ _  hI (lv_sub hl [2, 3, 1, 0] rfl)
        · rw [if_neg c2] at hR
          refine lv_iconst (v := 1) hx hb dX1_rankOf_22 (by decide) ?_
          refine lv_goto (tgt := 27) hx hb dX1_rankOf_23 (by decide) ?_
          refine lv_iadd hx hb dX1_rankOf_27 ?_
          refine lv_istore_n (lv' := [(2, .int (x2h4 + 1)), (0, .ref a), (1, .int p1), (3, .int x3h4)]) hx hb dX1_rankOf_28 rfl hl (by decide) rfl (fun ls hl => ?_)
          refine lv_iinc (v := x3h4 + 1) (lv' := [(3, .int (x3h4 + 1)), (2, .int (x2h4 + 1)), (0, .ref a), (1, .int p1)]) hx hb dX1_rankOf_29 hl (k := 3) rfl rfl (by decide) rfl (fun ls hl => ?_)
          refine lv_goto (tgt := 4) hx hb dX1_rankOf_32 (by decide) ?_
          exact ih4 (x2h4 + 1) (x3h4 + 1) (q_mu c1 hm4) hR _ _ _  hI (lv_sub hl [2, 3, 1, 0] rfl)
  exact loop4 _ 0 0 (q_fuel _) hR _ _ _  hI (lv_sub hl [2, 3, 1, 0] rfl)
def s_X1_blockOfRank_L2 (v : qBV) (p1 : Int32) : Nat → Int32 → Int32
  | 0, _ => default
  | n + 1, x2h2 => (if v.2.2 ≤ x2h2 then (-1) else (if (s_X1_rankOf v x2h2) = p1 then x2h2 else (s_X1_blockOfRank_L2 v p1 n (x2h2 + 1))))
def s_X1_blockOfRank (v : qBV) (p1 : Int32) : Int32 := (s_X1_blockOfRank_L2 v p1 (v.2.2.toInt.toNat + 1) 0)
set_option maxHeartbeats 4000000 in
set_option maxRecDepth 20000 in
theorem c_X1_blockOfRank (l : Launch) (D : va_G) (cs : qC) {M0 : qM} {N a : Nat} {v : qBV} (hL0 : qLB cs M0 a v) (p1 : Int32) :
    qMet l D cs yX1_blockOfRank (qws yX1_blockOfRank cX1_blockOfRank 3 (some .int)) ({ frames := 5, cells := 0, slots := 0, locals := 112 } : Room) M0 N [.ref a, .int p1] (qRet M0 N (.int (s_X1_blockOfRank v p1))) 0 0 := by
  obtain ⟨R, hR⟩ : ∃ R, s_X1_blockOfRank v p1 = R := ⟨_, rfl⟩
  rw [hR]
  rw [s_X1_blockOfRank] at hR
  refine q_head (by decide +kernel) ?_ (Nat.le_of_ble_eq_true rfl)
  intro p e s m below meth c ls hx hb hret hlk hml hown hnm hg hK hN hI hl
  have hl : lv_has ls 3 [(0, .ref a), (1, .int p1)] := hl
  refine lv_iconst (v := 0) hx hb dX1_blockOfRank_0 (by decide) ?_
  refine lv_istore_n (lv' := [(2, .int 0), (0, .ref a), (1, .int p1)]) hx hb dX1_blockOfRank_1 rfl hl (by decide) rfl (fun ls hl => ?_)
  have loop2 : ∀ (n2 : Nat) (x2h2 : Int32), qmu v.2.2 x2h2 < n2 → s_X1_blockOfRank_L2 v p1 n2 x2h2 = R → ∀ (H : Heap) (locs : List Loc) (ls : Array Slot), qI D M0 s.heap M0 N H locs → lv_has ls 3 [(0, .ref a), (1, .int p1), (2, .int x2h2)] →
      W p l e ({ frames := 5, cells := 0, slots := 0, locals := 112 } : Room) s m [Value.ref a, Value.int p1].toArray below meth c H locs 0 0 (MQ below (qQ D M0 N (qRet M0 N (.int R))) [Value.ref a, Value.int p1].toArray s 0 0 (qA M0 N)) (F0 m 2 ls []) := by
    intro n2
    induction n2 with
    | zero => intro x2h2 hm; exact absurd hm (Nat.not_lt_zero _)
    | succ n2 ih2 =>
      intro x2h2 hm2 hR H locs ls  hI hl
      rw [s_X1_blockOfRank_L2] at hR
      refine lv_iload_n hx hb dX1_blockOfRank_2 rfl (lv_at hl 2 rfl) ?_
      refine lv_aload_n hx hb dX1_blockOfRank_3 rfl (lv_at hl 0 rfl) ?_
      refine q_get hx hb hg in_X1 hown hK hI hL0.1 rfl 2 (by decide) (hg _ wf_X1_18) (fun _ h9 => h9) rfl dX1_blockOfRank_4 ?_
      refine lv_icmp_ge (tgt := 27) hx hb dX1_blockOfRank_7 (by decide) (fun c1 => ?_) (fun c1 => ?_)
      · rw [if_pos c1] at hR
        refine lv_iconst (v := (-1)) hx hb dX1_blockOfRank_27 (by decide) ?_
        exact q_iret hx hb hret hlk hN hI (by subst hR; exact ⟨rfl, rfl, rfl⟩) dX1_blockOfRank_28
      · rw [if_neg c1] at hR
        refine lv_aload_n hx hb dX1_blockOfRank_10 rfl (lv_at hl 0 rfl) ?_
        refine lv_iload_n hx hb dX1_blockOfRank_11 rfl (lv_at hl 2 rfl) ?_
        refine q_goR (q_runV (As := [.int x2h2]) (rest := []) hx hb hml hown hg (c_X1_rankOf l D cs hL0 x2h2) v_X1_rankOf wl_X1_67 rfl rfl ⟨Nat.le_of_ble_eq_true rfl, Nat.le_of_ble_eq_true rfl⟩ hI hK 2 hL0.1 rfl hl.1 rfl rfl (Nat.le_of_ble_eq_true rfl) dX1_blockOfRank_12 ⟨Nat.le_of_ble_eq_true rfl, Nat.le_of_ble_eq_true rfl⟩) hI (fun H locs hI => ?_)
        refine lv_iload_n hx hb dX1_blockOfRank_15 rfl (lv_at hl 1 rfl) ?_
        refine lv_icmp_ne (tgt := 21) hx hb dX1_blockOfRank_16 (by decide) (fun c2 => ?_) (fun c2 => ?_)
        · rw [if_neg c2] at hR
          refine lv_iinc (v := x2h2 + 1) (lv' := [(2, .int (x2h2 + 1)), (0, .ref a), (1, .int p1)]) hx hb dX1_blockOfRank_21 hl (k := 2) rfl rfl (by decide) rfl (fun ls hl => ?_)
          refine lv_goto (tgt := 2) hx hb dX1_blockOfRank_24 (by decide) ?_
          exact ih2 (x2h2 + 1) (q_mu c1 hm2) hR _ _ _  hI (lv_sub hl [1, 2, 0] rfl)
        · rw [if_pos c2] at hR
          refine lv_iload_n hx hb dX1_blockOfRank_19 rfl (lv_at hl 2 rfl) ?_
          exact q_iret hx hb hret hlk hN hI (by subst hR; exact ⟨rfl, rfl, rfl⟩) dX1_blockOfRank_20
  exact loop2 _ 0 (q_fuel _) hR _ _ _  hI (lv_sub hl [1, 2, 0] rfl)
