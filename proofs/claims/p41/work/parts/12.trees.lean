def s_X8_makeEmpty (v : qTV)  : qTV := ((rowFill v.1 (-1)), (rowFill v.2.1 (-1)), (rowFill v.2.2.1 (-1)), 0)
set_option maxHeartbeats 4000000 in
set_option maxRecDepth 20000 in
theorem c_X8_makeEmpty (l : Launch) (D : va_G) (cs : qC) {M0 : qM} {N a : Nat} {v : qTV} (hL0 : qLT cs M0 a v) :
    qMet l D cs yX8_makeEmpty (qws yX8_makeEmpty cX8_makeEmpty 1 none) ({ frames := 1, cells := 0, slots := 0, locals := 22 } : Room) M0 N [.ref a] (qMod N none (fun M' => qLT cs M' a (s_X8_makeEmpty v) ∧ qFr (qIn a 4) M0 M')) 0 0 := by
  obtain ⟨R, hR⟩ : ∃ R, s_X8_makeEmpty v = R := ⟨_, rfl⟩
  rw [hR]
  rw [s_X8_makeEmpty] at hR
  refine q_head (by decide +kernel) ?_ (Nat.le_of_ble_eq_true rfl)
  intro p e s m below meth c ls hx hb hret hlk hml hown hnm hg hK hN hI hl
  have hl : lv_has ls 1 [(0, .ref a)] := hl
  have hS : qFr (qIn a 4) M0 M0 := qFr.rf
  refine lv_aload_n hx hb dX8_makeEmpty_0 rfl (lv_at hl 0 rfl) ?_
  refine lv_iconst (v := 0) hx hb dX8_makeEmpty_1 (by decide) ?_
  have hn := qLT.i3 0 hL0
  refine q_put (v := .int 0) hx hb hg in_X8 tyX8_ok nmX8 hown hK hI hL0.1 rfl 3 (by decide) (hg _ wf_X8_21) (fun _ h9 => h9) rfl rfl rfl (Nat.le_of_ble_eq_true rfl) dX8_makeEmpty_2 (fun H locs hI => ?_)
  obtain ⟨M, hn, hF, hI⟩ : ∃ Mx : qM, qLT cs Mx a (v.1, v.2.1, v.2.2.1, 0) ∧ qFr (qIn a 1) M0 Mx ∧ qI D M0 s.heap Mx N H locs := ⟨_, hn, qFr.up (by decide), hI⟩
  have hL0 := hn
  have hS := hS.tr hF (fun q hq => by omega)
  refine lv_aload_n hx hb dX8_makeEmpty_5 rfl (lv_at hl 0 rfl) ?_
  refine q_get hx hb hg in_X8 hown hK hI hL0.1 rfl 0 (by decide) (hg _ wf_X8_9) (fun _ h9 => h9) rfl dX8_makeEmpty_6 ?_
  refine lv_iconst (v := (-1)) hx hb dX8_makeEmpty_9 (by decide) ?_
  refine q_goN (q_runSN (As := [.ref (a + 1), .int (-1)]) (rest := []) hx hb hml hown hg (c_X10_fill l D cs hL0.2.1 (-1)) v_X10_fill (hK.2 _ (List.mem_of_getElem? (i := 10) rfl)) rfl rfl ⟨Nat.le_of_ble_eq_true rfl, Nat.le_of_ble_eq_true rfl⟩ hI hK hl.1 rfl rfl (Nat.le_of_ble_eq_true rfl) dX8_makeEmpty_10 ⟨Nat.le_of_ble_eq_true rfl, Nat.le_of_ble_eq_true rfl⟩) hI (fun M H locs hp hI => ?_)
  obtain ⟨hn0, hF⟩ := hp
  generalize heg1 : rowFill v.1 (-1) = g1 at hn0 hR
  have hn := hn0
  have hn : qLT cs M a (g1, v.2.1, v.2.2.1, 0) := qLT.s0 (v := (v.1, v.2.1, v.2.2.1, 0)) hL0 hn (qFr.rf.tr hF (fun q hq => by omega))
  have hL0 := hn
  have hS := hS.tr hF (fun q hq => by omega)
  refine lv_aload_n hx hb dX8_makeEmpty_13 rfl (lv_at hl 0 rfl) ?_
  refine q_get hx hb hg in_X8 hown hK hI hL0.1 rfl 1 (by decide) (hg _ wf_X8_15) (fun _ h9 => h9) rfl dX8_makeEmpty_14 ?_
  refine lv_iconst (v := (-1)) hx hb dX8_makeEmpty_17 (by decide) ?_
  refine q_goN (q_runSN (As := [.ref (a + 2), .int (-1)]) (rest := []) hx hb hml hown hg (c_X10_fill l D cs hL0.2.2.1 (-1)) v_X10_fill (hK.2 _ (List.mem_of_getElem? (i := 10) rfl)) rfl rfl ⟨Nat.le_of_ble_eq_true rfl, Nat.le_of_ble_eq_true rfl⟩ hI hK hl.1 rfl rfl (Nat.le_of_ble_eq_true rfl) dX8_makeEmpty_18 ⟨Nat.le_of_ble_eq_true rfl, Nat.le_of_ble_eq_true rfl⟩) hI (fun M H locs hp hI => ?_)
  obtain ⟨hn0, hF⟩ := hp
  generalize heg2 : rowFill v.2.1 (-1) = g2 at hn0 hR
  have hn := hn0
  have hn : qLT cs M a (g1, g2, v.2.2.1, 0) := qLT.s1 (v := (g1, v.2.1, v.2.2.1, 0)) hL0 hn (qFr.rf.tr hF (fun q hq => by omega))
  have hL0 := hn
  have hS := hS.tr hF (fun q hq => by omega)
  refine lv_aload_n hx hb dX8_makeEmpty_21 rfl (lv_at hl 0 rfl) ?_
  refine q_get hx hb hg in_X8 hown hK hI hL0.1 rfl 2 (by decide) (hg _ wf_X8_18) (fun _ h9 => h9) rfl dX8_makeEmpty_22 ?_
  refine lv_iconst (v := (-1)) hx hb dX8_makeEmpty_25 (by decide) ?_
  refine q_goN (q_runSN (As := [.ref (a + 3), .int (-1)]) (rest := []) hx hb hml hown hg (c_X10_fill l D cs hL0.2.2.2 (-1)) v_X10_fill (hK.2 _ (List.mem_of_getElem? (i := 10) rfl)) rfl rfl ⟨Nat.le_of_ble_eq_true rfl, Nat.le_of_ble_eq_true rfl⟩ hI hK hl.1 rfl rfl (Nat.le_of_ble_eq_true rfl) dX8_makeEmpty_26 ⟨Nat.le_of_ble_eq_true rfl, Nat.le_of_ble_eq_true rfl⟩) hI (fun M H locs hp hI => ?_)
  obtain ⟨hn0, hF⟩ := hp
  generalize heg3 : rowFill v.2.2.1 (-1) = g3 at hn0 hR
  have hn := hn0
  have hn : qLT cs M a (g1, g2, g3, 0) := qLT.s2 (v := (g1, g2, v.2.2.1, 0)) hL0 hn (qFr.rf.tr hF (fun q hq => by omega))
  have hL0 := hn
  have hS := hS.tr hF (fun q hq => by omega)
  exact q_vret (st := []) hx hb hret hlk hN hI (by subst hR; exact ⟨rfl, ⟨hL0, hS⟩, rfl⟩) dX8_makeEmpty_29
def s_X8_leftOf (v : qTV) (p1 : Int32) : Int32 := rowAt v.1 p1
set_option maxHeartbeats 4000000 in
set_option maxRecDepth 20000 in
theorem c_X8_leftOf (l : Launch) (D : va_G) (cs : qC) {M0 : qM} {N a : Nat} {v : qTV} (hL0 : qLT cs M0 a v) (p1 : Int32) :
    qMet l D cs yX8_leftOf (qws yX8_leftOf cX8_leftOf 2 (some .int)) ({ frames := 1, cells := 0, slots := 0, locals := 21 } : Room) M0 N [.ref a, .int p1] (qRet M0 N (.int (s_X8_leftOf v p1))) 0 0 := by
  obtain ⟨R, hR⟩ : ∃ R, s_X8_leftOf v p1 = R := ⟨_, rfl⟩
  rw [hR]
  rw [s_X8_leftOf] at hR
  refine q_head (by decide +kernel) ?_ (Nat.le_of_ble_eq_true rfl)
  intro p e s m below meth c ls hx hb hret hlk hml hown hnm hg hK hN hI hl
  have hl : lv_has ls 2 [(0, .ref a), (1, .int p1)] := hl
  refine lv_aload_n hx hb dX8_leftOf_0 rfl (lv_at hl 0 rfl) ?_
  refine q_get hx hb hg in_X8 hown hK hI hL0.1 rfl 0 (by decide) (hg _ wf_X8_9) (fun _ h9 => h9) rfl dX8_leftOf_1 ?_
  refine lv_iload_n hx hb dX8_leftOf_4 rfl (lv_at hl 1 rfl) ?_
  refine q_goR (q_runSN (As := [.ref (a + 1), .int p1]) (rest := []) hx hb hml hown hg (c_X10_at l D cs hL0.2.1 p1) v_X10_at (hK.2 _ (List.mem_of_getElem? (i := 35) rfl)) rfl rfl ⟨Nat.le_of_ble_eq_true rfl, Nat.le_of_ble_eq_true rfl⟩ hI hK hl.1 rfl rfl (Nat.le_of_ble_eq_true rfl) dX8_leftOf_5 ⟨Nat.le_of_ble_eq_true rfl, Nat.le_of_ble_eq_true rfl⟩) hI (fun H locs hI => ?_)
  exact q_iret hx hb hret hlk hN hI (by subst hR; exact ⟨rfl, rfl, rfl⟩) dX8_leftOf_8
def s_X8_rightOf (v : qTV) (p1 : Int32) : Int32 := rowAt v.2.1 p1
set_option maxHeartbeats 4000000 in
set_option maxRecDepth 20000 in
theorem c_X8_rightOf (l : Launch) (D : va_G) (cs : qC) {M0 : qM} {N a : Nat} {v : qTV} (hL0 : qLT cs M0 a v) (p1 : Int32) :
    qMet l D cs yX8_rightOf (qws yX8_rightOf cX8_rightOf 2 (some .int)) ({ frames := 1, cells := 0, slots := 0, locals := 21 } : Room) M0 N [.ref a, .int p1] (qRet M0 N (.int (s_X8_rightOf v p1))) 0 0 := by
  obtain ⟨R, hR⟩ : ∃ R, s_X8_rightOf v p1 = R := ⟨_, rfl⟩
  rw [hR]
  rw [s_X8_rightOf] at hR
  refine q_head (by decide +kernel) ?_ (Nat.le_of_ble_eq_true rfl)
  intro p e s m below meth c ls hx hb hret hlk hml hown hnm hg hK hN hI hl
  have hl : lv_has ls 2 [(0, .ref a), (1, .int p1)] := hl
  refine lv_aload_n hx hb dX8_rightOf_0 rfl (lv_at hl 0 rfl) ?_
  refine q_get hx hb hg in_X8 hown hK hI hL0.1 rfl 1 (by decide) (hg _ wf_X8_15) (fun _ h9 => h9) rfl dX8_rightOf_1 ?_
  refine lv_iload_n hx hb dX8_rightOf_4 rfl (lv_at hl 1 rfl) ?_
  refine q_goR (q_runSN (As := [.ref (a + 2), .int p1]) (rest := []) hx hb hml hown hg (c_X10_at l D cs hL0.2.2.1 p1) v_X10_at (hK.2 _ (List.mem_of_getElem? (i := 35) rfl)) rfl rfl ⟨Nat.le_of_ble_eq_true rfl, Nat.le_of_ble_eq_true rfl⟩ hI hK hl.1 rfl rfl (Nat.le_of_ble_eq_true rfl) dX8_rightOf_5 ⟨Nat.le_of_ble_eq_true rfl, Nat.le_of_ble_eq_true rfl⟩) hI (fun H locs hI => ?_)
  exact q_iret hx hb hret hlk hN hI (by subst hR; exact ⟨rfl, rfl, rfl⟩) dX8_rightOf_8
def s_X8_upperOf (v : qTV) (p1 : Int32) : Int32 := rowAt v.2.2.1 p1
set_option maxHeartbeats 4000000 in
set_option maxRecDepth 20000 in
theorem c_X8_upperOf (l : Launch) (D : va_G) (cs : qC) {M0 : qM} {N a : Nat} {v : qTV} (hL0 : qLT cs M0 a v) (p1 : Int32) :
    qMet l D cs yX8_upperOf (qws yX8_upperOf cX8_upperOf 2 (some .int)) ({ frames := 1, cells := 0, slots := 0, locals := 21 } : Room) M0 N [.ref a, .int p1] (qRet M0 N (.int (s_X8_upperOf v p1))) 0 0 := by
  obtain ⟨R, hR⟩ : ∃ R, s_X8_upperOf v p1 = R := ⟨_, rfl⟩
  rw [hR]
  rw [s_X8_upperOf] at hR
  refine q_head (by decide +kernel) ?_ (Nat.le_of_ble_eq_true rfl)
  intro p e s m below meth c ls hx hb hret hlk hml hown hnm hg hK hN hI hl
  have hl : lv_has ls 2 [(0, .ref a), (1, .int p1)] := hl
  refine lv_aload_n hx hb dX8_upperOf_0 rfl (lv_at hl 0 rfl) ?_
  refine q_get hx hb hg in_X8 hown hK hI hL0.1 rfl 2 (by decide) (hg _ wf_X8_18) (fun _ h9 => h9) rfl dX8_upperOf_1 ?_
  refine lv_iload_n hx hb dX8_upperOf_4 rfl (lv_at hl 1 rfl) ?_
  refine q_goR (q_runSN (As := [.ref (a + 3), .int p1]) (rest := []) hx hb hml hown hg (c_X10_at l D cs hL0.2.2.2 p1) v_X10_at (hK.2 _ (List.mem_of_getElem? (i := 35) rfl)) rfl rfl ⟨Nat.le_of_ble_eq_true rfl, Nat.le_of_ble_eq_true rfl⟩ hI hK hl.1 rfl rfl (Nat.le_of_ble_eq_true rfl) dX8_upperOf_5 ⟨Nat.le_of_ble_eq_true rfl, Nat.le_of_ble_eq_true rfl⟩) hI (fun H locs hI => ?_)
  exact q_iret hx hb hret hlk hN hI (by subst hR; exact ⟨rfl, rfl, rfl⟩) dX8_upperOf_8
def s_X8_headOf (v : qTV) (p1 : Int32) : Int32 := s_X10_lastAlong v.2.2.1 p1
set_option maxHeartbeats 4000000 in
set_option maxRecDepth 20000 in
theorem c_X8_headOf (l : Launch) (D : va_G) (cs : qC) {M0 : qM} {N a : Nat} {v : qTV} (hL0 : qLT cs M0 a v) (p1 : Int32) :
    qMet l D cs yX8_headOf (qws yX8_headOf cX8_headOf 2 (some .int)) ({ frames := 2, cells := 0, slots := 0, locals := 44 } : Room) M0 N [.ref a, .int p1] (qRet M0 N (.int (s_X8_headOf v p1))) 0 0 := by
  obtain ⟨R, hR⟩ : ∃ R, s_X8_headOf v p1 = R := ⟨_, rfl⟩
  rw [hR]
  rw [s_X8_headOf] at hR
  refine q_head (by decide +kernel) ?_ (Nat.le_of_ble_eq_true rfl)
  intro p e s m below meth c ls hx hb hret hlk hml hown hnm hg hK hN hI hl
  have hl : lv_has ls 2 [(0, .ref a), (1, .int p1)] := hl
  refine lv_aload_n hx hb dX8_headOf_0 rfl (lv_at hl 0 rfl) ?_
  refine q_get hx hb hg in_X8 hown hK hI hL0.1 rfl 2 (by decide) (hg _ wf_X8_18) (fun _ h9 => h9) rfl dX8_headOf_1 ?_
  refine lv_iload_n hx hb dX8_headOf_4 rfl (lv_at hl 1 rfl) ?_
  refine q_goR (q_runSN (As := [.ref (a + 3), .int p1]) (rest := []) hx hb hml hown hg (c_X10_lastAlong l D cs hL0.2.2.2 p1) v_X10_lastAlong (hK.2 _ (List.mem_of_getElem? (i := 37) rfl)) rfl rfl ⟨Nat.le_of_ble_eq_true rfl, Nat.le_of_ble_eq_true rfl⟩ hI hK hl.1 rfl rfl (Nat.le_of_ble_eq_true rfl) dX8_headOf_5 ⟨Nat.le_of_ble_eq_true rfl, Nat.le_of_ble_eq_true rfl⟩) hI (fun H locs hI => ?_)
  exact q_iret hx hb hret hlk hN hI (by subst hR; exact ⟨rfl, rfl, rfl⟩) dX8_headOf_8
def s_X8_topOf (v : qTV) (p1 : Int32) : Int32 := s_X10_lastAlong v.1 (s_X8_headOf v p1)
set_option maxHeartbeats 4000000 in
set_option maxRecDepth 20000 in
theorem c_X8_topOf (l : Launch) (D : va_G) (cs : qC) {M0 : qM} {N a : Nat} {v : qTV} (hL0 : qLT cs M0 a v) (p1 : Int32) :
    qMet l D cs yX8_topOf (qws yX8_topOf cX8_topOf 2 (some .int)) ({ frames := 3, cells := 0, slots := 0, locals := 65 } : Room) M0 N [.ref a, .int p1] (qRet M0 N (.int (s_X8_topOf v p1))) 0 0 := by
  obtain ⟨R, hR⟩ : ∃ R, s_X8_topOf v p1 = R := ⟨_, rfl⟩
  rw [hR]
  rw [s_X8_topOf] at hR
  refine q_head (by decide +kernel) ?_ (Nat.le_of_ble_eq_true rfl)
  intro p e s m below meth c ls hx hb hret hlk hml hown hnm hg hK hN hI hl
  have hl : lv_has ls 2 [(0, .ref a), (1, .int p1)] := hl
  refine lv_aload_n hx hb dX8_topOf_0 rfl (lv_at hl 0 rfl) ?_
  refine q_get hx hb hg in_X8 hown hK hI hL0.1 rfl 0 (by decide) (hg _ wf_X8_9) (fun _ h9 => h9) rfl dX8_topOf_1 ?_
  refine lv_aload_n hx hb dX8_topOf_4 rfl (lv_at hl 0 rfl) ?_
  refine lv_iload_n hx hb dX8_topOf_5 rfl (lv_at hl 1 rfl) ?_
  refine q_goR (q_runV (As := [.int p1]) (rest := [.ref (a + 1)]) hx hb hml hown hg (c_X8_headOf l D cs hL0 p1) v_X8_headOf wl_X8_40 rfl rfl ⟨Nat.le_of_ble_eq_true rfl, Nat.le_of_ble_eq_true rfl⟩ hI hK 9 hL0.1 rfl hl.1 rfl rfl (Nat.le_of_ble_eq_true rfl) dX8_topOf_6 ⟨Nat.le_of_ble_eq_true rfl, Nat.le_of_ble_eq_true rfl⟩) hI (fun H locs hI => ?_)
  refine q_goR (q_runSN (As := [.ref (a + 1), .int (s_X8_headOf v p1)]) (rest := []) hx hb hml hown hg (c_X10_lastAlong l D cs hL0.2.1 (s_X8_headOf v p1)) v_X10_lastAlong (hK.2 _ (List.mem_of_getElem? (i := 37) rfl)) rfl rfl ⟨Nat.le_of_ble_eq_true rfl, Nat.le_of_ble_eq_true rfl⟩ hI hK hl.1 rfl rfl (Nat.le_of_ble_eq_true rfl) dX8_topOf_9 ⟨Nat.le_of_ble_eq_true rfl, Nat.le_of_ble_eq_true rfl⟩) hI (fun H locs hI => ?_)
  exact q_iret hx hb hret hlk hN hI (by subst hR; exact ⟨rfl, rfl, rfl⟩) dX8_topOf_12
def s_X8_neighbour_l_L33 (v : qTV) (p3 : Int32) : Nat → Int32 → Int32 → Int32 → Int32 → Int32
  | 0, _, _, _, _ => default
  | n + 1, x4h33, x5h33, x6h33, x7h33 => (if 16 ≤ x7h33 then x6h33 else (if x6h33 < 0 then x6h33 else (if (rowAt v.1 x6h33) = x5h33 then (s_X8_neighbour_l_L33 v p3 n x4h33 x6h33 (s_X8_upperOf v x6h33) (x7h33 + 1)) else x6h33)))
def s_X8_neighbour_l (v : qTV) (p3 : Int32) : Int32 := (if (rowAt v.1 p3) < 0 then (s_X8_neighbour_l_L33 v p3 ((16 : Int32).toInt.toNat + 1) (rowAt v.1 p3) p3 (s_X8_upperOf v p3) 0) else s_X10_lastAlong v.2.1 (rowAt v.1 p3))
set_option maxHeartbeats 4000000 in
set_option maxRecDepth 20000 in
theorem c_X8_neighbour_l (l : Launch) (D : va_G) (cs : qC) {M0 : qM} {N a : Nat} {v : qTV} (hL0 : qLT cs M0 a v) (p3 : Int32) :
    qMet l D cs yX8_neighbour (qws yX8_neighbour cX8_neighbour 8 (some .int)) ({ frames := 2, cells := 0, slots := 0, locals := 44 } : Room) M0 N [.ref a, .ref (a + 1), .ref (a + 2), .int p3] (qRet M0 N (.int (s_X8_neighbour_l v p3))) 0 0 := by
  obtain ⟨R, hR⟩ : ∃ R, s_X8_neighbour_l v p3 = R := ⟨_, rfl⟩
  rw [hR]
  rw [s_X8_neighbour_l] at hR
  refine q_head (by decide +kernel) ?_ (Nat.le_of_ble_eq_true rfl)
  intro p e s m below meth c ls hx hb hret hlk hml hown hnm hg hK hN hI hl
  have hl : lv_has ls 8 [(0, .ref a), (1, .ref (a + 1)), (2, .ref (a + 2)), (3, .int p3)] := hl
  refine lv_aload_n hx hb dX8_neighbour_0 rfl (lv_at hl 1 rfl) ?_
  refine lv_iload_n hx hb dX8_neighbour_1 rfl (lv_at hl 3 rfl) ?_
  refine q_goR (q_runSN (As := [.ref (a + 1), .int p3]) (rest := []) hx hb hml hown hg (c_X10_at l D cs hL0.2.1 p3) v_X10_at (hK.2 _ (List.mem_of_getElem? (i := 35) rfl)) rfl rfl ⟨Nat.le_of_ble_eq_true rfl, Nat.le_of_ble_eq_true rfl⟩ hI hK hl.1 rfl rfl (Nat.le_of_ble_eq_true rfl) dX8_neighbour_2 ⟨Nat.le_of_ble_eq_true rfl, Nat.le_of_ble_eq_true rfl⟩) hI (fun H locs hI => ?_)
  refine lv_istore (lv' := [(4, .int (rowAt v.1 p3)), (0, .ref a), (1, .ref (a + 1)), (2, .ref (a + 2)), (3, .int p3)]) hx hb dX8_neighbour_5 hl (by decide) rfl (fun ls hl => ?_)
  refine lv_iload hx hb dX8_neighbour_7 (lv_at hl 0 rfl) ?_
  refine lv_if_lt (tgt := 19) hx hb dX8_neighbour_9 (by decide) (fun c1 => ?_) (fun c1 => ?_)
  · rw [if_pos c1] at hR
    refine lv_iload_n hx hb dX8_neighbour_19 rfl (lv_at hl 4 rfl) ?_
    refine lv_istore (lv' := [(5, .int p3), (4, .int (rowAt v.1 p3)), (0, .ref a), (1, .ref (a + 1)), (2, .ref (a + 2)), (3, .int p3)]) hx hb dX8_neighbour_20 hl (by decide) rfl (fun ls hl => ?_)
    refine lv_aload_n hx hb dX8_neighbour_22 rfl (lv_at hl 2 rfl) ?_
    refine lv_iload hx hb dX8_neighbour_23 (lv_at hl 0 rfl) ?_
    refine q_goR (q_runV (As := [.int p3]) (rest := []) hx hb hml hown hg (c_X8_upperOf l D cs hL0 p3) v_X8_upperOf wl_X8_48 rfl rfl ⟨Nat.le_of_ble_eq_true rfl, Nat.le_of_ble_eq_true rfl⟩ hI hK 9 hL0.1 rfl hl.1 rfl rfl (Nat.le_of_ble_eq_true rfl) dX8_neighbour_25 ⟨Nat.le_of_ble_eq_true rfl, Nat.le_of_ble_eq_true rfl⟩) hI (fun H locs hI => ?_)
    refine lv_istore (lv' := [(6, .int (s_X8_upperOf v p3)), (5, .int p3), (4, .int (rowAt v.1 p3)), (0, .ref a), (1, .ref (a + 1)), (2, .ref (a + 2)), (3, .int p3)]) hx hb dX8_neighbour_28 hl (by decide) rfl (fun ls hl => ?_)
    refine lv_iconst (v := 0) hx hb dX8_neighbour_30 (by decide) ?_
    refine lv_istore (lv' := [(7, .int 0), (6, .int (s_X8_upperOf v p3)), (5, .int p3), (4, .int (rowAt v.1 p3)), (0, .ref a), (1, .ref (a + 1)), (2, .ref (a + 2)), (3, .int p3)]) hx hb dX8_neighbour_31 hl (by decide) rfl (fun ls hl => ?_)
    have loop33 : ∀ (n33 : Nat) (x4h33 : Int32) (x5h33 : Int32) (x6h33 : Int32) (x7h33 : Int32), qmu 16 x7h33 < n33 → s_X8_neighbour_l_L33 v p3 n33 x4h33 x5h33 x6h33 x7h33 = R → ∀ (H : Heap) (locs : List Loc) (ls : Array Slot), qI D M0 s.heap M0 N H locs → lv_has ls 8 [(0, .ref a), (1, .ref (a + 1)), (2, .ref (a + 2)), (3, .int p3), (4, .int x4h33), (5, .int x5h33), (6, .int x6h33), (7, .int x7h33)] →
        W p l e ({ frames := 2, cells := 0, slots := 0, locals := 44 } : Room) s m [Value.ref a, Value.ref (a + 1), Value.ref (a + 2), Value.int p3].toArray below meth c H locs 0 0 (MQ below (qQ D M0 N (qRet M0 N (.int R))) [Value.ref a, Value.ref (a + 1), Value.ref (a + 2), Value.int p3].toArray s 0 0 (qA M0 N)) (F0 m 33 ls []) := by
      intro n33
      induction n33 with
      | zero => intro x4h33 x5h33 x6h33 x7h33 hm; exact absurd hm (Nat.not_lt_zero _)
      | succ n33 ih33 =>
        intro x4h33 x5h33 x6h33 x7h33 hm33 hR H locs ls  hI hl
        rw [s_X8_neighbour_l_L33] at hR
        refine lv_iload hx hb dX8_neighbour_33 (lv_at hl 7 rfl) ?_
        refine lv_bipush (v := 16) hx hb dX8_neighbour_35 (by decide) ?_
        refine lv_icmp_ge (tgt := 74) hx hb dX8_neighbour_37 (by decide) (fun c2 => ?_) (fun c2 => ?_)
        · rw [if_pos c2] at hR
          refine lv_iload hx hb dX8_neighbour_74 (lv_at hl 6 rfl) ?_
          exact q_iret hx hb hret hlk hN hI (by subst hR; exact ⟨rfl, rfl, rfl⟩) dX8_neighbour_76
        · rw [if_neg c2] at hR
          refine lv_iload hx hb dX8_neighbour_40 (lv_at hl 6 rfl) ?_
          refine lv_if_lt (tgt := 74) hx hb dX8_neighbour_42 (by decide) (fun c3 => ?_) (fun c3 => ?_)
          · rw [if_pos c3] at hR
            refine lv_iload hx hb dX8_neighbour_74 (lv_at hl 6 rfl) ?_
            exact q_iret hx hb hret hlk hN hI (by subst hR; exact ⟨rfl, rfl, rfl⟩) dX8_neighbour_76
          · rw [if_neg c3] at hR
            refine lv_aload_n hx hb dX8_neighbour_45 rfl (lv_at hl 1 rfl) ?_
            refine lv_iload hx hb dX8_neighbour_46 (lv_at hl 6 rfl) ?_
            refine q_goR (q_runSN (As := [.ref (a + 1), .int x6h33]) (rest := []) hx hb hml hown hg (c_X10_at l D cs hL0.2.1 x6h33) v_X10_at (hK.2 _ (List.mem_of_getElem? (i := 35) rfl)) rfl rfl ⟨Nat.le_of_ble_eq_true rfl, Nat.le_of_ble_eq_true rfl⟩ hI hK hl.1 rfl rfl (Nat.le_of_ble_eq_true rfl) dX8_neighbour_48 ⟨Nat.le_of_ble_eq_true rfl, Nat.le_of_ble_eq_true rfl⟩) hI (fun H locs hI => ?_)
            refine lv_iload hx hb dX8_neighbour_51 (lv_at hl 5 rfl) ?_
            refine lv_icmp_ne (tgt := 74) hx hb dX8_neighbour_53 (by decide) (fun c4 => ?_) (fun c4 => ?_)
            · rw [if_neg c4] at hR
              refine lv_iload hx hb dX8_neighbour_74 (lv_at hl 6 rfl) ?_
              exact q_iret hx hb hret hlk hN hI (by subst hR; exact ⟨rfl, rfl, rfl⟩) dX8_neighbour_76
            · rw [if_pos c4] at hR
              refine lv_iload hx hb dX8_neighbour_56 (lv_at hl 6 rfl) ?_
              refine lv_istore (lv' := [(5, .int x6h33), (0, .ref a), (1, .ref (a + 1)), (2, .ref (a + 2)), (3, .int p3), (4, .int x4h33), (6, .int x6h33), (7, .int x7h33)]) hx hb dX8_neighbour_58 hl (by decide) rfl (fun ls hl => ?_)
              refine lv_aload_n hx hb dX8_neighbour_60 rfl (lv_at hl 1 rfl) ?_
              refine lv_iload hx hb dX8_neighbour_61 (lv_at hl 0 rfl) ?_
              refine q_goR (q_runV (As := [.int x6h33]) (rest := []) hx hb hml hown hg (c_X8_upperOf l D cs hL0 x6h33) v_X8_upperOf wl_X8_48 rfl rfl ⟨Nat.le_of_ble_eq_true rfl, Nat.le_of_ble_eq_true rfl⟩ hI hK 9 hL0.1 rfl hl.1 rfl rfl (Nat.le_of_ble_eq_true rfl) dX8_neighbour_63 ⟨Nat.le_of_ble_eq_true rfl, Nat.le_of_ble_eq_true rfl⟩) hI (fun H locs hI => ?_)
              refine lv_istore (lv' := [(6, .int (s_X8_upperOf v x6h33)), (5, .int x6h33), (0, .ref a), (1, .ref (a + 1)), (2, .ref (a + 2)), (3, .int p3), (4, .int x4h33), (7, .int x7h33)]) hx hb dX8_neighbour_66 hl (by decide) rfl (fun ls hl => ?_)
              refine lv_iinc (v := x7h33 + 1) (lv' := [(7, .int (x7h33 + 1)), (6, .int (s_X8_upperOf v x6h33)), (5, .int x6h33), (0, .ref a), (1, .ref (a + 1)), (2, .ref (a + 2)), (3, .int p3), (4, .int x4h33)]) hx hb dX8_neighbour_68 hl (k := 7) rfl rfl (by decide) rfl (fun ls hl => ?_)
              refine lv_goto (tgt := 33) hx hb dX8_neighbour_71 (by decide) ?_
              exact ih33 x4h33 x6h33 (s_X8_upperOf v x6h33) (x7h33 + 1) (q_mu c2 hm33) hR _ _ _  hI (lv_sub hl [3, 4, 5, 6, 7, 2, 1, 0] rfl)
    exact loop33 _ (rowAt v.1 p3) p3 (s_X8_upperOf v p3) 0 (q_fuel _) hR _ _ _  hI (lv_sub hl [4, 5, 6, 7, 3, 2, 1, 0] rfl)
  · rw [if_neg c1] at hR
    refine lv_aload_n hx hb dX8_neighbour_12 rfl (lv_at hl 3 rfl) ?_
    refine lv_iload hx hb dX8_neighbour_13 (lv_at hl 0 rfl) ?_
    refine q_goR (q_runSN (As := [.ref (a + 2), .int (rowAt v.1 p3)]) (rest := []) hx hb hml hown hg (c_X10_lastAlong l D cs hL0.2.2.1 (rowAt v.1 p3)) v_X10_lastAlong (hK.2 _ (List.mem_of_getElem? (i := 37) rfl)) rfl rfl ⟨Nat.le_of_ble_eq_true rfl, Nat.le_of_ble_eq_true rfl⟩ hI hK hl.1 rfl rfl (Nat.le_of_ble_eq_true rfl) dX8_neighbour_15 ⟨Nat.le_of_ble_eq_true rfl, Nat.le_of_ble_eq_true rfl⟩) hI (fun H locs hI => ?_)
    exact q_iret hx hb hret hlk hN hI (by subst hR; exact ⟨rfl, rfl, rfl⟩) dX8_neighbour_18
def s_X8_neighbour_r_L33 (v : qTV) (p3 : Int32) : Nat → Int32 → Int32 → Int32 → Int32 → Int32
  | 0, _, _, _, _ => default
  | n + 1, x4h33, x5h33, x6h33, x7h33 => (if 16 ≤ x7h33 then x6h33 else (if x6h33 < 0 then x6h33 else (if (rowAt v.2.1 x6h33) = x5h33 then (s_X8_neighbour_r_L33 v p3 n x4h33 x6h33 (s_X8_upperOf v x6h33) (x7h33 + 1)) else x6h33)))
def s_X8_neighbour_r (v : qTV) (p3 : Int32) : Int32 := (if (rowAt v.2.1 p3) < 0 then (s_X8_neighbour_r_L33 v p3 ((16 : Int32).toInt.toNat + 1) (rowAt v.2.1 p3) p3 (s_X8_upperOf v p3) 0) else s_X10_lastAlong v.1 (rowAt v.2.1 p3))
set_option maxHeartbeats 4000000 in
set_option maxRecDepth 20000 in
theorem c_X8_neighbour_r (l : Launch) (D : va_G) (cs : qC) {M0 : qM} {N a : Nat} {v : qTV} (hL0 : qLT cs M0 a v) (p3 : Int32) :
    qMet l D cs yX8_neighbour (qws yX8_neighbour cX8_neighbour 8 (some .int)) ({ frames := 2, cells := 0, slots := 0, locals := 44 } : Room) M0 N [.ref a, .ref (a + 2), .ref (a + 1), .int p3] (qRet M0 N (.int (s_X8_neighbour_r v p3))) 0 0 := by
  obtain ⟨R, hR⟩ : ∃ R, s_X8_neighbour_r v p3 = R := ⟨_, rfl⟩
  rw [hR]
  rw [s_X8_neighbour_r] at hR
  refine q_head (by decide +kernel) ?_ (Nat.le_of_ble_eq_true rfl)
  intro p e s m below meth c ls hx hb hret hlk hml hown hnm hg hK hN hI hl
  have hl : lv_has ls 8 [(0, .ref a), (1, .ref (a + 2)), (2, .ref (a + 1)), (3, .int p3)] := hl
  refine lv_aload_n hx hb dX8_neighbour_0 rfl (lv_at hl 1 rfl) ?_
  refine lv_iload_n hx hb dX8_neighbour_1 rfl (lv_at hl 3 rfl) ?_
  refine q_goR (q_runSN (As := [.ref (a + 2), .int p3]) (rest := []) hx hb hml hown hg (c_X10_at l D cs hL0.2.2.1 p3) v_X10_at (hK.2 _ (List.mem_of_getElem? (i := 35) rfl)) rfl rfl ⟨Nat.le_of_ble_eq_true rfl, Nat.le_of_ble_eq_true rfl⟩ hI hK hl.1 rfl rfl (Nat.le_of_ble_eq_true rfl) dX8_neighbour_2 ⟨Nat.le_of_ble_eq_true rfl, Nat.le_of_ble_eq_true rfl⟩) hI (fun H locs hI => ?_)
  refine lv_istore (lv' := [(4, .int (rowAt v.2.1 p3)), (0, .ref a), (1, .ref (a + 2)), (2, .ref (a + 1)), (3, .int p3)]) hx hb dX8_neighbour_5 hl (by decide) rfl (fun ls hl => ?_)
  refine lv_iload hx hb dX8_neighbour_7 (lv_at hl 0 rfl) ?_
  refine lv_if_lt (tgt := 19) hx hb dX8_neighbour_9 (by decide) (fun c1 => ?_) (fun c1 => ?_)
  · rw [if_pos c1] at hR
    refine lv_iload_n hx hb dX8_neighbour_19 rfl (lv_at hl 4 rfl) ?_
    refine lv_istore (lv' := [(5, .int p3), (4, .int (rowAt v.2.1 p3)), (0, .ref a), (1, .ref (a + 2)), (2, .ref (a + 1)), (3, .int p3)]) hx hb dX8_neighbour_20 hl (by decide) rfl (fun ls hl => ?_)
    refine lv_aload_n hx hb dX8_neighbour_22 rfl (lv_at hl 2 rfl) ?_
    refine lv_iload hx hb dX8_neighbour_23 (lv_at hl 0 rfl) ?_
    refine q_goR (q_runV (As := [.int p3]) (rest := []) hx hb hml hown hg (c_X8_upperOf l D cs hL0 p3) v_X8_upperOf wl_X8_48 rfl rfl ⟨Nat.le_of_ble_eq_true rfl, Nat.le_of_ble_eq_true rfl⟩ hI hK 9 hL0.1 rfl hl.1 rfl rfl (Nat.le_of_ble_eq_true rfl) dX8_neighbour_25 ⟨Nat.le_of_ble_eq_true rfl, Nat.le_of_ble_eq_true rfl⟩) hI (fun H locs hI => ?_)
    refine lv_istore (lv' := [(6, .int (s_X8_upperOf v p3)), (5, .int p3), (4, .int (rowAt v.2.1 p3)), (0, .ref a), (1, .ref (a + 2)), (2, .ref (a + 1)), (3, .int p3)]) hx hb dX8_neighbour_28 hl (by decide) rfl (fun ls hl => ?_)
    refine lv_iconst (v := 0) hx hb dX8_neighbour_30 (by decide) ?_
    refine lv_istore (lv' := [(7, .int 0), (6, .int (s_X8_upperOf v p3)), (5, .int p3), (4, .int (rowAt v.2.1 p3)), (0, .ref a), (1, .ref (a + 2)), (2, .ref (a + 1)), (3, .int p3)]) hx hb dX8_neighbour_31 hl (by decide) rfl (fun ls hl => ?_)
    have loop33 : ∀ (n33 : Nat) (x4h33 : Int32) (x5h33 : Int32) (x6h33 : Int32) (x7h33 : Int32), qmu 16 x7h33 < n33 → s_X8_neighbour_r_L33 v p3 n33 x4h33 x5h33 x6h33 x7h33 = R → ∀ (H : Heap) (locs : List Loc) (ls : Array Slot), qI D M0 s.heap M0 N H locs → lv_has ls 8 [(0, .ref a), (1, .ref (a + 2)), (2, .ref (a + 1)), (3, .int p3), (4, .int x4h33), (5, .int x5h33), (6, .int x6h33), (7, .int x7h33)] →
        W p l e ({ frames := 2, cells := 0, slots := 0, locals := 44 } : Room) s m [Value.ref a, Value.ref (a + 2), Value.ref (a + 1), Value.int p3].toArray below meth c H locs 0 0 (MQ below (qQ D M0 N (qRet M0 N (.int R))) [Value.ref a, Value.ref (a + 2), Value.ref (a + 1), Value.int p3].toArray s 0 0 (qA M0 N)) (F0 m 33 ls []) := by
      intro n33
      induction n33 with
      | zero => intro x4h33 x5h33 x6h33 x7h33 hm; exact absurd hm (Nat.not_lt_zero _)
      | succ n33 ih33 =>
        intro x4h33 x5h33 x6h33 x7h33 hm33 hR H locs ls  hI hl
        rw [s_X8_neighbour_r_L33] at hR
        refine lv_iload hx hb dX8_neighbour_33 (lv_at hl 7 rfl) ?_
        refine lv_bipush (v := 16) hx hb dX8_neighbour_35 (by decide) ?_
        refine lv_icmp_ge (tgt := 74) hx hb dX8_neighbour_37 (by decide) (fun c2 => ?_) (fun c2 => ?_)
        · rw [if_pos c2] at hR
          refine lv_iload hx hb dX8_neighbour_74 (lv_at hl 6 rfl) ?_
          exact q_iret hx hb hret hlk hN hI (by subst hR; exact ⟨rfl, rfl, rfl⟩) dX8_neighbour_76
        · rw [if_neg c2] at hR
          refine lv_iload hx hb dX8_neighbour_40 (lv_at hl 6 rfl) ?_
          refine lv_if_lt (tgt := 74) hx hb dX8_neighbour_42 (by decide) (fun c3 => ?_) (fun c3 => ?_)
          · rw [if_pos c3] at hR
            refine lv_iload hx hb dX8_neighbour_74 (lv_at hl 6 rfl) ?_
            exact q_iret hx hb hret hlk hN hI (by subst hR; exact ⟨rfl, rfl, rfl⟩) dX8_neighbour_76
          · rw [if_neg c3] at hR
            refine lv_aload_n hx hb dX8_neighbour_45 rfl (lv_at hl 1 rfl) ?_
            refine lv_iload hx hb dX8_neighbour_46 (lv_at hl 6 rfl) ?_
            refine q_goR (q_runSN (As := [.ref (a + 2), .int x6h33]) (rest := []) hx hb hml hown hg (c_X10_at l D cs hL0.2.2.1 x6h33) v_X10_at (hK.2 _ (List.mem_of_getElem? (i := 35) rfl)) rfl rfl ⟨Nat.le_of_ble_eq_true rfl, Nat.le_of_ble_eq_true rfl⟩ hI hK hl.1 rfl rfl (Nat.le_of_ble_eq_true rfl) dX8_neighbour_48 ⟨Nat.le_of_ble_eq_true rfl, Nat.le_of_ble_eq_true rfl⟩) hI (fun H locs hI => ?_)
            refine lv_iload hx hb dX8_neighbour_51 (lv_at hl 5 rfl) ?_
            refine lv_icmp_ne (tgt := 74) hx hb dX8_neighbour_53 (by decide) (fun c4 => ?_) (fun c4 => ?_)
            · rw [if_neg c4] at hR
              refine lv_iload hx hb dX8_neighbour_74 (lv_at hl 6 rfl) ?_
              exact q_iret hx hb hret hlk hN hI (by subst hR; exact ⟨rfl, rfl, rfl⟩) dX8_neighbour_76
            · rw [if_pos c4] at hR
              refine lv_iload hx hb dX8_neighbour_56 (lv_at hl 6 rfl) ?_
              refine lv_istore (lv' := [(5, .int x6h33), (0, .ref a), (1, .ref (a + 2)), (2, .ref (a + 1)), (3, .int p3), (4, .int x4h33), (6, .int x6h33), (7, .int x7h33)]) hx hb dX8_neighbour_58 hl (by decide) rfl (fun ls hl => ?_)
              refine lv_aload_n hx hb dX8_neighbour_60 rfl (lv_at hl 1 rfl) ?_
              refine lv_iload hx hb dX8_neighbour_61 (lv_at hl 0 rfl) ?_
              refine q_goR (q_runV (As := [.int x6h33]) (rest := []) hx hb hml hown hg (c_X8_upperOf l D cs hL0 x6h33) v_X8_upperOf wl_X8_48 rfl rfl ⟨Nat.le_of_ble_eq_true rfl, Nat.le_of_ble_eq_true rfl⟩ hI hK 9 hL0.1 rfl hl.1 rfl rfl (Nat.le_of_ble_eq_true rfl) dX8_neighbour_63 ⟨Nat.le_of_ble_eq_true rfl, Nat.le_of_ble_eq_true rfl⟩) hI (fun H locs hI => ?_)
              refine lv_istore (lv' := [(6, .int (s_X8_upperOf v x6h33)), (5, .int x6h33), (0, .ref a), (1, .ref (a + 2)), (2, .ref (a + 1)), (3, .int p3), (4, .int x4h33), (7, .int x7h33)]) hx hb dX8_neighbour_66 hl (by decide) rfl (fun ls hl => ?_)
              refine lv_iinc (v := x7h33 + 1) (lv' := [(7, .int (x7h33 + 1)), (6, .int (s_X8_upperOf v x6h33)), (5, .int x6h33), (0, .ref a), (1, .ref (a + 2)), (2, .ref (a + 1)), (3, .int p3), (4, .int x4h33)]) hx hb dX8_neighbour_68 hl (k := 7) rfl rfl (by decide) rfl (fun ls hl => ?_)
              refine lv_goto (tgt := 33) hx hb dX8_neighbour_71 (by decide) ?_
              exact ih33 x4h33 x6h33 (s_X8_upperOf v x6h33) (x7h33 + 1) (q_mu c2 hm33) hR _ _ _  hI (lv_sub hl [3, 4, 5, 6, 7, 2, 1, 0] rfl)
    exact loop33 _ (rowAt v.2.1 p3) p3 (s_X8_upperOf v p3) 0 (q_fuel _) hR _ _ _  hI (lv_sub hl [4, 5, 6, 7, 3, 2, 1, 0] rfl)
  · rw [if_neg c1] at hR
    refine lv_aload_n hx hb dX8_neighbour_12 rfl (lv_at hl 3 rfl) ?_
    refine lv_iload hx hb dX8_neighbour_13 (lv_at hl 0 rfl) ?_
    refine q_goR (q_runSN (As := [.ref (a + 1), .int (rowAt v.2.1 p3)]) (rest := []) hx hb hml hown hg (c_X10_lastAlong l D cs hL0.2.1 (rowAt v.2.1 p3)) v_X10_lastAlong (hK.2 _ (List.mem_of_getElem? (i := 37) rfl)) rfl rfl ⟨Nat.le_of_ble_eq_true rfl, Nat.le_of_ble_eq_true rfl⟩ hI hK hl.1 rfl rfl (Nat.le_of_ble_eq_true rfl) dX8_neighbour_15 ⟨Nat.le_of_ble_eq_true rfl, Nat.le_of_ble_eq_true rfl⟩) hI (fun H locs hI => ?_)
    exact q_iret hx hb hret hlk hN hI (by subst hR; exact ⟨rfl, rfl, rfl⟩) dX8_neighbour_18
def s_X8_ahead (v : qTV) (p1 : Int32) : Int32 := s_X8_neighbour_l v p1
set_option maxHeartbeats 4000000 in
set_option maxRecDepth 20000 in
theorem c_X8_ahead (l : Launch) (D : va_G) (cs : qC) {M0 : qM} {N a : Nat} {v : qTV} (hL0 : qLT cs M0 a v) (p1 : Int32) :
    qMet l D cs yX8_ahead (qws yX8_ahead cX8_ahead 2 (some .int)) ({ frames := 3, cells := 0, slots := 0, locals := 71 } : Room) M0 N [.ref a, .int p1] (qRet M0 N (.int (s_X8_ahead v p1))) 0 0 := by
  obtain ⟨R, hR⟩ : ∃ R, s_X8_ahead v p1 = R := ⟨_, rfl⟩
  rw [hR]
  rw [s_X8_ahead] at hR
  refine q_head (by decide +kernel) ?_ (Nat.le_of_ble_eq_true rfl)
  intro p e s m below meth c ls hx hb hret hlk hml hown hnm hg hK hN hI hl
  have hl : lv_has ls 2 [(0, .ref a), (1, .int p1)] := hl
  refine lv_aload_n hx hb dX8_ahead_0 rfl (lv_at hl 0 rfl) ?_
  refine lv_aload_n hx hb dX8_ahead_1 rfl (lv_at hl 0 rfl) ?_
  refine q_get hx hb hg in_X8 hown hK hI hL0.1 rfl 0 (by decide) (hg _ wf_X8_9) (fun _ h9 => h9) rfl dX8_ahead_2 ?_
  refine lv_aload_n hx hb dX8_ahead_5 rfl (lv_at hl 0 rfl) ?_
  refine q_get hx hb hg in_X8 hown hK hI hL0.1 rfl 1 (by decide) (hg _ wf_X8_15) (fun _ h9 => h9) rfl dX8_ahead_6 ?_
  refine lv_iload_n hx hb dX8_ahead_9 rfl (lv_at hl 1 rfl) ?_
  refine q_goR (q_runV (As := [.ref (a + 1), .ref (a + 2), .int p1]) (rest := []) hx hb hml hown hg (c_X8_neighbour_l l D cs hL0 p1) v_X8_neighbour wl_X8_44 rfl rfl ⟨Nat.le_of_ble_eq_true rfl, Nat.le_of_ble_eq_true rfl⟩ hI hK 9 hL0.1 rfl hl.1 rfl rfl (Nat.le_of_ble_eq_true rfl) dX8_ahead_10 ⟨Nat.le_of_ble_eq_true rfl, Nat.le_of_ble_eq_true rfl⟩) hI (fun H locs hI => ?_)
  exact q_iret hx hb hret hlk hN hI (by subst hR; exact ⟨rfl, rfl, rfl⟩) dX8_ahead_13
def s_X8_behind (v : qTV) (p1 : Int32) : Int32 := s_X8_neighbour_r v p1
set_option maxHeartbeats 4000000 in
set_option maxRecDepth 20000 in
theorem c_X8_behind (l : Launch) (D : va_G) (cs : qC) {M0 : qM} {N a : Nat} {v : qTV} (hL0 : qLT cs M0 a v) (p1 : Int32) :
    qMet l D cs yX8_behind (qws yX8_behind cX8_behind 2 (some .int)) ({ frames := 3, cells := 0, slots := 0, locals := 71 } : Room) M0 N [.ref a, .int p1] (qRet M0 N (.int (s_X8_behind v p1))) 0 0 := by
  obtain ⟨R, hR⟩ : ∃ R, s_X8_behind v p1 = R := ⟨_, rfl⟩
  rw [hR]
  rw [s_X8_behind] at hR
  refine q_head (by decide +kernel) ?_ (Nat.le_of_ble_eq_true rfl)
  intro p e s m below meth c ls hx hb hret hlk hml hown hnm hg hK hN hI hl
  have hl : lv_has ls 2 [(0, .ref a), (1, .int p1)] := hl
  refine lv_aload_n hx hb dX8_behind_0 rfl (lv_at hl 0 rfl) ?_
  refine lv_aload_n hx hb dX8_behind_1 rfl (lv_at hl 0 rfl) ?_
  refine q_get hx hb hg in_X8 hown hK hI hL0.1 rfl 1 (by decide) (hg _ wf_X8_15) (fun _ h9 => h9) rfl dX8_behind_2 ?_
  refine lv_aload_n hx hb dX8_behind_5 rfl (lv_at hl 0 rfl) ?_
  refine q_get hx hb hg in_X8 hown hK hI hL0.1 rfl 0 (by decide) (hg _ wf_X8_9) (fun _ h9 => h9) rfl dX8_behind_6 ?_
  refine lv_iload_n hx hb dX8_behind_9 rfl (lv_at hl 1 rfl) ?_
  refine q_goR (q_runV (As := [.ref (a + 2), .ref (a + 1), .int p1]) (rest := []) hx hb hml hown hg (c_X8_neighbour_r l D cs hL0 p1) v_X8_neighbour wl_X8_44 rfl rfl ⟨Nat.le_of_ble_eq_true rfl, Nat.le_of_ble_eq_true rfl⟩ hI hK 9 hL0.1 rfl hl.1 rfl rfl (Nat.le_of_ble_eq_true rfl) dX8_behind_10 ⟨Nat.le_of_ble_eq_true rfl, Nat.le_of_ble_eq_true rfl⟩) hI (fun H locs hI => ?_)
  exact q_iret hx hb hret hlk hN hI (by subst hR; exact ⟨rfl, rfl, rfl⟩) dX8_behind_13
def s_X8_countAbove (v : qTV) (p1 : Int32) : Int32 := s_X10_stepsAlong v.2.2.1 p1
set_option maxHeartbeats 4000000 in
set_option maxRecDepth 20000 in
theorem c_X8_countAbove (l : Launch) (D : va_G) (cs : qC) {M0 : qM} {N a : Nat} {v : qTV} (hL0 : qLT cs M0 a v) (p1 : Int32) :
    qMet l D cs yX8_countAbove (qws yX8_countAbove cX8_countAbove 2 (some .int)) ({ frames := 2, cells := 0, slots := 0, locals := 44 } : Room) M0 N [.ref a, .int p1] (qRet M0 N (.int (s_X8_countAbove v p1))) 0 0 := by
  obtain ⟨R, hR⟩ : ∃ R, s_X8_countAbove v p1 = R := ⟨_, rfl⟩
  rw [hR]
  rw [s_X8_countAbove] at hR
  refine q_head (by decide +kernel) ?_ (Nat.le_of_ble_eq_true rfl)
  intro p e s m below meth c ls hx hb hret hlk hml hown hnm hg hK hN hI hl
  have hl : lv_has ls 2 [(0, .ref a), (1, .int p1)] := hl
  refine lv_aload_n hx hb dX8_countAbove_0 rfl (lv_at hl 0 rfl) ?_
  refine q_get hx hb hg in_X8 hown hK hI hL0.1 rfl 2 (by decide) (hg _ wf_X8_18) (fun _ h9 => h9) rfl dX8_countAbove_1 ?_
  refine lv_iload_n hx hb dX8_countAbove_4 rfl (lv_at hl 1 rfl) ?_
  refine q_goR (q_runSN (As := [.ref (a + 3), .int p1]) (rest := []) hx hb hml hown hg (c_X10_stepsAlong l D cs hL0.2.2.2 p1) v_X10_stepsAlong (hK.2 _ (List.mem_of_getElem? (i := 45) rfl)) rfl rfl ⟨Nat.le_of_ble_eq_true rfl, Nat.le_of_ble_eq_true rfl⟩ hI hK hl.1 rfl rfl (Nat.le_of_ble_eq_true rfl) dX8_countAbove_5 ⟨Nat.le_of_ble_eq_true rfl, Nat.le_of_ble_eq_true rfl⟩) hI (fun H locs hI => ?_)
  exact q_iret hx hb hret hlk hN hI (by subst hR; exact ⟨rfl, rfl, rfl⟩) dX8_countAbove_8
def s_X8_isAtOrBelow (v : qTV) (p1 : Int32) (p2 : Int32) : Bool := (s_X10_isAlong v.2.2.1 p1 p2)
set_option maxHeartbeats 4000000 in
set_option maxRecDepth 20000 in
theorem c_X8_isAtOrBelow (l : Launch) (D : va_G) (cs : qC) {M0 : qM} {N a : Nat} {v : qTV} (hL0 : qLT cs M0 a v) (p1 : Int32) (p2 : Int32) :
    qMet l D cs yX8_isAtOrBelow (qws yX8_isAtOrBelow cX8_isAtOrBelow 3 (some .boolean)) ({ frames := 2, cells := 0, slots := 0, locals := 45 } : Room) M0 N [.ref a, .int p1, .int p2] (qRet M0 N (.int (qbi (s_X8_isAtOrBelow v p1 p2)))) 0 0 := by
  obtain ⟨R, hR⟩ : ∃ R, s_X8_isAtOrBelow v p1 p2 = R := ⟨_, rfl⟩
  rw [hR]
  rw [s_X8_isAtOrBelow] at hR
  refine q_head (by decide +kernel) ?_ (Nat.le_of_ble_eq_true rfl)
  intro p e s m below meth c ls hx hb hret hlk hml hown hnm hg hK hN hI hl
  have hl : lv_has ls 3 [(0, .ref a), (1, .int p1), (2, .int p2)] := hl
  refine lv_aload_n hx hb dX8_isAtOrBelow_0 rfl (lv_at hl 0 rfl) ?_
  refine q_get hx hb hg in_X8 hown hK hI hL0.1 rfl 2 (by decide) (hg _ wf_X8_18) (fun _ h9 => h9) rfl dX8_isAtOrBelow_1 ?_
  refine lv_iload_n hx hb dX8_isAtOrBelow_4 rfl (lv_at hl 1 rfl) ?_
  refine lv_iload_n hx hb dX8_isAtOrBelow_5 rfl (lv_at hl 2 rfl) ?_
  refine q_goR (q_runSN (As := [.ref (a + 3), .int p1, .int p2]) (rest := []) hx hb hml hown hg (c_X10_isAlong l D cs hL0.2.2.2 p1 p2) v_X10_isAlong (hK.2 _ (List.mem_of_getElem? (i := 46) rfl)) rfl rfl ⟨Nat.le_of_ble_eq_true rfl, Nat.le_of_ble_eq_true rfl⟩ hI hK hl.1 rfl rfl (Nat.le_of_ble_eq_true rfl) dX8_isAtOrBelow_6 ⟨Nat.le_of_ble_eq_true rfl, Nat.le_of_ble_eq_true rfl⟩) hI (fun H locs hI => ?_)
  exact q_zret hx hb hret (q_nbi _) hlk hN hI (by subst hR; exact ⟨rfl, rfl, rfl⟩) dX8_isAtOrBelow_9
def s_X8_countBelow_L4 (v : qTV) (p1 : Int32) : Nat → Int32 → Int32 → Int32
  | 0, _, _ => default
  | n + 1, x2h4, x3h4 => (if 16 ≤ x3h4 then x2h4 else (if (qbi (s_X8_isAtOrBelow v x3h4 p1)) = 0 then (s_X8_countBelow_L4 v p1 n (x2h4 + 0) (x3h4 + 1)) else (s_X8_countBelow_L4 v p1 n (x2h4 + 1) (x3h4 + 1))))
def s_X8_countBelow (v : qTV) (p1 : Int32) : Int32 := (s_X8_countBelow_L4 v p1 ((16 : Int32).toInt.toNat + 1) 0 0)
set_option maxHeartbeats 4000000 in
set_option maxRecDepth 20000 in
theorem c_X8_countBelow (l : Launch) (D : va_G) (cs : qC) {M0 : qM} {N a : Nat} {v : qTV} (hL0 : qLT cs M0 a v) (p1 : Int32) :
    qMet l D cs yX8_countBelow (qws yX8_countBelow cX8_countBelow 4 (some .int)) ({ frames := 3, cells := 0, slots := 0, locals := 67 } : Room) M0 N [.ref a, .int p1] (qRet M0 N (.int (s_X8_countBelow v p1))) 0 0 := by
  obtain ⟨R, hR⟩ : ∃ R, s_X8_countBelow v p1 = R := ⟨_, rfl⟩
  rw [hR]
  rw [s_X8_countBelow] at hR
  refine q_head (by decide +kernel) ?_ (Nat.le_of_ble_eq_true rfl)
  intro p e s m below meth c ls hx hb hret hlk hml hown hnm hg hK hN hI hl
  have hl : lv_has ls 4 [(0, .ref a), (1, .int p1)] := hl
  refine lv_iconst (v := 0) hx hb dX8_countBelow_0 (by decide) ?_
  refine lv_istore_n (lv' := [(2, .int 0), (0, .ref a), (1, .int p1)]) hx hb dX8_countBelow_1 rfl hl (by decide) rfl (fun ls hl => ?_)
  refine lv_iconst (v := 0) hx hb dX8_countBelow_2 (by decide) ?_
  refine lv_istore_n (lv' := [(3, .int 0), (2, .int 0), (0, .ref a), (1, .int p1)]) hx hb dX8_countBelow_3 rfl hl (by decide) rfl (fun ls hl => ?_)
  have loop4 : ∀ (n4 : Nat) (x2h4 : Int32) (x3h4 : Int32), qmu 16 x3h4 < n4 → s_X8_countBelow_L4 v p1 n4 x2h4 x3h4 = R → ∀ (H : Heap) (locs : List Loc) (ls : Array Slot), qI D M0 s.heap M0 N H locs → lv_has ls 4 [(0, .ref a), (1, .int p1), (2, .int x2h4), (3, .int x3h4)] →
      W p l e ({ frames := 3, cells := 0, slots := 0, locals := 67 } : Room) s m [Value.ref a, Value.int p1].toArray below meth c H locs 0 0 (MQ below (qQ D M0 N (qRet M0 N (.int R))) [Value.ref a, Value.int p1].toArray s 0 0 (qA M0 N)) (F0 m 4 ls []) := by
    intro n4
    induction n4 with
    | zero => intro x2h4 x3h4 hm; exact absurd hm (Nat.not_lt_zero _)
    | succ n4 ih4 =>
      intro x2h4 x3h4 hm4 hR H locs ls  hI hl
      rw [s_X8_countBelow_L4] at hR
      refine lv_iload_n hx hb dX8_countBelow_4 rfl (lv_at hl 3 rfl) ?_
      refine lv_bipush (v := 16) hx hb dX8_countBelow_5 (by decide) ?_
      refine lv_icmp_ge (tgt := 33) hx hb dX8_countBelow_7 (by decide) (fun c1 => ?_) (fun c1 => ?_)
      · rw [if_pos c1] at hR
        refine lv_iload_n hx hb dX8_countBelow_33 rfl (lv_at hl 2 rfl) ?_
        exact q_iret hx hb hret hlk hN hI (by subst hR; exact ⟨rfl, rfl, rfl⟩) dX8_countBelow_34
      · rw [if_neg c1] at hR
        refine lv_iload_n hx hb dX8_countBelow_10 rfl (lv_at hl 2 rfl) ?_
        refine lv_aload_n hx hb dX8_countBelow_11 rfl (lv_at hl 0 rfl) ?_
        refine lv_iload_n hx hb dX8_countBelow_12 rfl (lv_at hl 3 rfl) ?_
        refine lv_iload_n hx hb dX8_countBelow_13 rfl (lv_at hl 1 rfl) ?_
        refine q_goR (q_runV (As := [.int x3h4, .int p1]) (rest := [.int x2h4]) hx hb hml hown hg (c_X8_isAtOrBelow l D cs hL0 x3h4 p1) v_X8_isAtOrBelow wl_X8_58 rfl rfl ⟨Nat.le_of_ble_eq_true rfl, Nat.le_of_ble_eq_true rfl⟩ hI hK 9 hL0.1 rfl hl.1 rfl rfl (Nat.le_of_ble_eq_true rfl) dX8_countBelow_14 ⟨Nat.le_of_ble_eq_true rfl, Nat.le_of_ble_eq_true rfl⟩) hI (fun H locs hI => ?_)
        refine lv_if_eq (tgt := 24) hx hb dX8_countBelow_17 (by decide) (fun c2 => ?_) (fun c2 => ?_)
        · rw [if_pos c2] at hR
          refine lv_iconst (v := 0) hx hb dX8_countBelow_24 (by decide) ?_
          refine lv_iadd hx hb dX8_countBelow_25 ?_
          refine lv_istore_n (lv' := [(2, .int (x2h4 + 0)), (0, .ref a), (1, .int p1), (3, .int x3h4)]) hx hb dX8_countBelow_26 rfl hl (by decide) rfl (fun ls hl => ?_)
          refine lv_iinc (v := x3h4 + 1) (lv' := [(3, .int (x3h4 + 1)), (2, .int (x2h4 + 0)), (0, .ref a), (1, .int p1)]) hx hb dX8_countBelow_27 hl (k := 3) rfl rfl (by decide) rfl (fun ls hl => ?_)
          refine lv_goto (tgt := 4) hx hb dX8_countBelow_30 (by decide) ?_
          exact ih4 (x2h4 + 0) (x3h4 + 1) (q_mu c1 hm4) hR _ _ _  hI (lv_sub hl [2, 3, 1, 0] rfl)
        · rw [if_neg c2] at hR
          refine lv_iconst (v := 1) hx hb dX8_countBelow_20 (by decide) ?_
          refine lv_goto (tgt := 25) hx hb dX8_countBelow_21 (by decide) ?_
          refine lv_iadd hx hb dX8_countBelow_25 ?_
          refine lv_istore_n (lv' := [(2, .int (x2h4 + 1)), (0, .ref a), (1, .int p1), (3, .int x3h4)]) hx hb dX8_countBelow_26 rfl hl (by decide) rfl (fun ls hl => ?_)
          refine lv_iinc (v := x3h4 + 1) (lv' := [(3, .int (x3h4 + 1)), (2, .int (x2h4 + 1)), (0, .ref a), (1, .int p1)]) hx hb dX8_countBelow_27 hl (k := 3) rfl rfl (by decide) rfl (fun ls hl => ?_)
          refine lv_goto (tgt := 4) hx hb dX8_countBelow_30 (by decide) ?_
          exact ih4 (x2h4 + 1) (x3h4 + 1) (q_mu c1 hm4) hR _ _ _  hI (lv_sub hl [2, 3, 1, 0] rfl)
  exact loop4 _ 0 0 (q_fuel _) hR _ _ _  hI (lv_sub hl [2, 3, 1, 0] rfl)
def s_X8_countAhead_L8 (v : qTV) (p1 : Int32) : Nat → Int32 → Int32 → Int32
  | 0, _, _ => default
  | n + 1, x2h8, x3h8 => (if 16 ≤ x2h8 then x2h8 else (if x3h8 < 0 then x2h8 else (s_X8_countAhead_L8 v p1 n (x2h8 + 1) (s_X8_ahead v x3h8))))
def s_X8_countAhead (v : qTV) (p1 : Int32) : Int32 := (s_X8_countAhead_L8 v p1 ((16 : Int32).toInt.toNat + 1) 0 (s_X8_ahead v p1))
set_option maxHeartbeats 4000000 in
set_option maxRecDepth 20000 in
theorem c_X8_countAhead (l : Launch) (D : va_G) (cs : qC) {M0 : qM} {N a : Nat} {v : qTV} (hL0 : qLT cs M0 a v) (p1 : Int32) :
    qMet l D cs yX8_countAhead (qws yX8_countAhead cX8_countAhead 4 (some .int)) ({ frames := 4, cells := 0, slots := 0, locals := 92 } : Room) M0 N [.ref a, .int p1] (qRet M0 N (.int (s_X8_countAhead v p1))) 0 0 := by
  obtain ⟨R, hR⟩ : ∃ R, s_X8_countAhead v p1 = R := ⟨_, rfl⟩
  rw [hR]
  rw [s_X8_countAhead] at hR
  refine q_head (by decide +kernel) ?_ (Nat.le_of_ble_eq_true rfl)
  intro p e s m below meth c ls hx hb hret hlk hml hown hnm hg hK hN hI hl
  have hl : lv_has ls 4 [(0, .ref a), (1, .int p1)] := hl
  refine lv_iconst (v := 0) hx hb dX8_countAhead_0 (by decide) ?_
  refine lv_istore_n (lv' := [(2, .int 0), (0, .ref a), (1, .int p1)]) hx hb dX8_countAhead_1 rfl hl (by decide) rfl (fun ls hl => ?_)
  refine lv_aload_n hx hb dX8_countAhead_2 rfl (lv_at hl 1 rfl) ?_
  refine lv_iload_n hx hb dX8_countAhead_3 rfl (lv_at hl 2 rfl) ?_
  refine q_goR (q_runV (As := [.int p1]) (rest := []) hx hb hml hown hg (c_X8_ahead l D cs hL0 p1) v_X8_ahead wl_X8_62 rfl rfl ⟨Nat.le_of_ble_eq_true rfl, Nat.le_of_ble_eq_true rfl⟩ hI hK 9 hL0.1 rfl hl.1 rfl rfl (Nat.le_of_ble_eq_true rfl) dX8_countAhead_4 ⟨Nat.le_of_ble_eq_true rfl, Nat.le_of_ble_eq_true rfl⟩) hI (fun H locs hI => ?_)
  refine lv_istore_n (lv' := [(3, .int (s_X8_ahead v p1)), (2, .int 0), (0, .ref a), (1, .int p1)]) hx hb dX8_countAhead_7 rfl hl (by decide) rfl (fun ls hl => ?_)
  have loop8 : ∀ (n8 : Nat) (x2h8 : Int32) (x3h8 : Int32), qmu 16 x2h8 < n8 → s_X8_countAhead_L8 v p1 n8 x2h8 x3h8 = R → ∀ (H : Heap) (locs : List Loc) (ls : Array Slot), qI D M0 s.heap M0 N H locs → lv_has ls 4 [(0, .ref a), (1, .int p1), (2, .int x2h8), (3, .int x3h8)] →
      W p l e ({ frames := 4, cells := 0, slots := 0, locals := 92 } : Room) s m [Value.ref a, Value.int p1].toArray below meth c H locs 0 0 (MQ below (qQ D M0 N (qRet M0 N (.int R))) [Value.ref a, Value.int p1].toArray s 0 0 (qA M0 N)) (F0 m 8 ls []) := by
    intro n8
    induction n8 with
    | zero => intro x2h8 x3h8 hm; exact absurd hm (Nat.not_lt_zero _)
    | succ n8 ih8 =>
      intro x2h8 x3h8 hm8 hR H locs ls  hI hl
      rw [s_X8_countAhead_L8] at hR
      refine lv_iload_n hx hb dX8_countAhead_8 rfl (lv_at hl 2 rfl) ?_
      refine lv_bipush (v := 16) hx hb dX8_countAhead_9 (by decide) ?_
      refine lv_icmp_ge (tgt := 30) hx hb dX8_countAhead_11 (by decide) (fun c1 => ?_) (fun c1 => ?_)
      · rw [if_pos c1] at hR
        refine lv_iload_n hx hb dX8_countAhead_30 rfl (lv_at hl 2 rfl) ?_
        exact q_iret hx hb hret hlk hN hI (by subst hR; exact ⟨rfl, rfl, rfl⟩) dX8_countAhead_31
      · rw [if_neg c1] at hR
        refine lv_iload_n hx hb dX8_countAhead_14 rfl (lv_at hl 3 rfl) ?_
        refine lv_if_lt (tgt := 30) hx hb dX8_countAhead_15 (by decide) (fun c2 => ?_) (fun c2 => ?_)
        · rw [if_pos c2] at hR
          refine lv_iload_n hx hb dX8_countAhead_30 rfl (lv_at hl 2 rfl) ?_
          exact q_iret hx hb hret hlk hN hI (by subst hR; exact ⟨rfl, rfl, rfl⟩) dX8_countAhead_31
        · rw [if_neg c2] at hR
          refine lv_iinc (v := x2h8 + 1) (lv' := [(2, .int (x2h8 + 1)), (0, .ref a), (1, .int p1), (3, .int x3h8)]) hx hb dX8_countAhead_18 hl (k := 2) rfl rfl (by decide) rfl (fun ls hl => ?_)
          refine lv_aload_n hx hb dX8_countAhead_21 rfl (lv_at hl 1 rfl) ?_
          refine lv_iload_n hx hb dX8_countAhead_22 rfl (lv_at hl 3 rfl) ?_
          refine q_goR (q_runV (As := [.int x3h8]) (rest := []) hx hb hml hown hg (c_X8_ahead l D cs hL0 x3h8) v_X8_ahead wl_X8_62 rfl rfl ⟨Nat.le_of_ble_eq_true rfl, Nat.le_of_ble_eq_true rfl⟩ hI hK 9 hL0.1 rfl hl.1 rfl rfl (Nat.le_of_ble_eq_true rfl) dX8_countAhead_23 ⟨Nat.le_of_ble_eq_true rfl, Nat.le_of_ble_eq_true rfl⟩) hI (fun H locs hI => ?_)
          refine lv_istore_n (lv' := [(3, .int (s_X8_ahead v x3h8)), (2, .int (x2h8 + 1)), (0, .ref a), (1, .int p1)]) hx hb dX8_countAhead_26 rfl hl (by decide) rfl (fun ls hl => ?_)
          refine lv_goto (tgt := 8) hx hb dX8_countAhead_27 (by decide) ?_
          exact ih8 (x2h8 + 1) (s_X8_ahead v x3h8) (q_mu c1 hm8) hR _ _ _  hI (lv_sub hl [2, 3, 1, 0] rfl)
  exact loop8 _ 0 (s_X8_ahead v p1) (q_fuel _) hR _ _ _  hI (lv_sub hl [2, 3, 1, 0] rfl)
def s_X8_blockAt_L21 (v : qTV) (p1 : Int32) (p2 : Int32) : Nat → Int32 → Int32 → Int32
  | 0, _, _ => default
  | n + 1, x3h21, x4h21 => (if p2 ≤ x4h21 then x3h21 else (if x3h21 < 0 then x3h21 else (s_X8_blockAt_L21 v p1 p2 n (s_X8_behind v x3h21) (x4h21 + 1))))
def s_X8_blockAt (v : qTV) (p1 : Int32) (p2 : Int32) : Int32 := (if p2 < 0 then (-1) else (if p2 < 16 then (s_X8_blockAt_L21 v p1 p2 (p2.toInt.toNat + 1) (s_X8_topOf v p1) 0) else (-1)))
set_option maxHeartbeats 4000000 in
set_option maxRecDepth 20000 in
theorem c_X8_blockAt (l : Launch) (D : va_G) (cs : qC) {M0 : qM} {N a : Nat} {v : qTV} (hL0 : qLT cs M0 a v) (p1 : Int32) (p2 : Int32) :
    qMet l D cs yX8_blockAt (qws yX8_blockAt cX8_blockAt 5 (some .int)) ({ frames := 4, cells := 0, slots := 0, locals := 92 } : Room) M0 N [.ref a, .int p1, .int p2] (qRet M0 N (.int (s_X8_blockAt v p1 p2))) 0 0 := by
  obtain ⟨R, hR⟩ : ∃ R, s_X8_blockAt v p1 p2 = R := ⟨_, rfl⟩
  rw [hR]
  rw [s_X8_blockAt] at hR
  refine q_head (by decide +kernel) ?_ (Nat.le_of_ble_eq_true rfl)
  intro p e s m below meth c ls hx hb hret hlk hml hown hnm hg hK hN hI hl
  have hl : lv_has ls 5 [(0, .ref a), (1, .int p1), (2, .int p2)] := hl
  refine lv_iload_n hx hb dX8_blockAt_0 rfl (lv_at hl 2 rfl) ?_
  refine lv_if_lt (tgt := 10) hx hb dX8_blockAt_1 (by decide) (fun c1 => ?_) (fun c1 => ?_)
  · rw [if_pos c1] at hR
    refine lv_iconst (v := (-1)) hx hb dX8_blockAt_10 (by decide) ?_
    exact q_iret hx hb hret hlk hN hI (by subst hR; exact ⟨rfl, rfl, rfl⟩) dX8_blockAt_11
  · rw [if_neg c1] at hR
    refine lv_iload_n hx hb dX8_blockAt_4 rfl (lv_at hl 2 rfl) ?_
    refine lv_bipush (v := 16) hx hb dX8_blockAt_5 (by decide) ?_
    refine lv_icmp_lt (tgt := 12) hx hb dX8_blockAt_7 (by decide) (fun c2 => ?_) (fun c2 => ?_)
    · rw [if_pos c2] at hR
      refine lv_aload_n hx hb dX8_blockAt_12 rfl (lv_at hl 0 rfl) ?_
      refine lv_iload_n hx hb dX8_blockAt_13 rfl (lv_at hl 1 rfl) ?_
      refine q_goR (q_runV (As := [.int p1]) (rest := []) hx hb hml hown hg (c_X8_topOf l D cs hL0 p1) v_X8_topOf wl_X8_65 rfl rfl ⟨Nat.le_of_ble_eq_true rfl, Nat.le_of_ble_eq_true rfl⟩ hI hK 9 hL0.1 rfl hl.1 rfl rfl (Nat.le_of_ble_eq_true rfl) dX8_blockAt_14 ⟨Nat.le_of_ble_eq_true rfl, Nat.le_of_ble_eq_true rfl⟩) hI (fun H locs hI => ?_)
      refine lv_istore_n (lv' := [(3, .int (s_X8_topOf v p1)), (0, .ref a), (1, .int p1), (2, .int p2)]) hx hb dX8_blockAt_17 rfl hl (by decide) rfl (fun ls hl => ?_)
      refine lv_iconst (v := 0) hx hb dX8_blockAt_18 (by decide) ?_
      refine lv_istore (lv' := [(4, .int 0), (3, .int (s_X8_topOf v p1)), (0, .ref a), (1, .int p1), (2, .int p2)]) hx hb dX8_blockAt_19 hl (by decide) rfl (fun ls hl => ?_)
      have loop21 : ∀ (n21 : Nat) (x3h21 : Int32) (x4h21 : Int32), qmu p2 x4h21 < n21 → s_X8_blockAt_L21 v p1 p2 n21 x3h21 x4h21 = R → ∀ (H : Heap) (locs : List Loc) (ls : Array Slot), qI D M0 s.heap M0 N H locs → lv_has ls 5 [(0, .ref a), (1, .int p1), (2, .int p2), (3, .int x3h21), (4, .int x4h21)] →
          W p l e ({ frames := 4, cells := 0, slots := 0, locals := 92 } : Room) s m [Value.ref a, Value.int p1, Value.int p2].toArray below meth c H locs 0 0 (MQ below (qQ D M0 N (qRet M0 N (.int R))) [Value.ref a, Value.int p1, Value.int p2].toArray s 0 0 (qA M0 N)) (F0 m 21 ls []) := by
        intro n21
        induction n21 with
        | zero => intro x3h21 x4h21 hm; exact absurd hm (Nat.not_lt_zero _)
        | succ n21 ih21 =>
          intro x3h21 x4h21 hm21 hR H locs ls  hI hl
          rw [s_X8_blockAt_L21] at hR
          refine lv_iload hx hb dX8_blockAt_21 (lv_at hl 4 rfl) ?_
          refine lv_iload_n hx hb dX8_blockAt_23 rfl (lv_at hl 2 rfl) ?_
          refine lv_icmp_ge (tgt := 43) hx hb dX8_blockAt_24 (by decide) (fun c3 => ?_) (fun c3 => ?_)
          · rw [if_pos c3] at hR
            refine lv_iload_n hx hb dX8_blockAt_43 rfl (lv_at hl 3 rfl) ?_
            exact q_iret hx hb hret hlk hN hI (by subst hR; exact ⟨rfl, rfl, rfl⟩) dX8_blockAt_44
          · rw [if_neg c3] at hR
            refine lv_iload_n hx hb dX8_blockAt_27 rfl (lv_at hl 3 rfl) ?_
            refine lv_if_lt (tgt := 43) hx hb dX8_blockAt_28 (by decide) (fun c4 => ?_) (fun c4 => ?_)
            · rw [if_pos c4] at hR
              refine lv_iload_n hx hb dX8_blockAt_43 rfl (lv_at hl 3 rfl) ?_
              exact q_iret hx hb hret hlk hN hI (by subst hR; exact ⟨rfl, rfl, rfl⟩) dX8_blockAt_44
            · rw [if_neg c4] at hR
              refine lv_aload_n hx hb dX8_blockAt_31 rfl (lv_at hl 0 rfl) ?_
              refine lv_iload_n hx hb dX8_blockAt_32 rfl (lv_at hl 3 rfl) ?_
              refine q_goR (q_runV (As := [.int x3h21]) (rest := []) hx hb hml hown hg (c_X8_behind l D cs hL0 x3h21) v_X8_behind wl_X8_68 rfl rfl ⟨Nat.le_of_ble_eq_true rfl, Nat.le_of_ble_eq_true rfl⟩ hI hK 9 hL0.1 rfl hl.1 rfl rfl (Nat.le_of_ble_eq_true rfl) dX8_blockAt_33 ⟨Nat.le_of_ble_eq_true rfl, Nat.le_of_ble_eq_true rfl⟩) hI (fun H locs hI => ?_)
              refine lv_istore_n (lv' := [(3, .int (s_X8_behind v x3h21)), (0, .ref a), (1, .int p1), (2, .int p2), (4, .int x4h21)]) hx hb dX8_blockAt_36 rfl hl (by decide) rfl (fun ls hl => ?_)
              refine lv_iinc (v := x4h21 + 1) (lv' := [(4, .int (x4h21 + 1)), (3, .int (s_X8_behind v x3h21)), (0, .ref a), (1, .int p1), (2, .int p2)]) hx hb dX8_blockAt_37 hl (k := 4) rfl rfl (by decide) rfl (fun ls hl => ?_)
              refine lv_goto (tgt := 21) hx hb dX8_blockAt_40 (by decide) ?_
              exact ih21 (s_X8_behind v x3h21) (x4h21 + 1) (q_mu c3 hm21) hR _ _ _  hI (lv_sub hl [2, 3, 4, 1, 0] rfl)
      exact loop21 _ (s_X8_topOf v p1) 0 (q_fuel _) hR _ _ _  hI (lv_sub hl [2, 3, 4, 1, 0] rfl)
    · rw [if_neg c2] at hR
      refine lv_iconst (v := (-1)) hx hb dX8_blockAt_10 (by decide) ?_
      exact q_iret hx hb hret hlk hN hI (by subst hR; exact ⟨rfl, rfl, rfl⟩) dX8_blockAt_11
def s_X8_link_l (v : qTV) (p2 : Int32) (p3 : Int32) : qTV := ((rowPut v.1 p2 p3), v.2.1, (rowPut v.2.2.1 p3 p2), v.2.2.2)
set_option maxHeartbeats 4000000 in
set_option maxRecDepth 20000 in
theorem c_X8_link_l (l : Launch) (D : va_G) (cs : qC) {M0 : qM} {N a : Nat} {v : qTV} (hL0 : qLT cs M0 a v) (p2 : Int32) (p3 : Int32) :
    qMet l D cs yX8_link (qws yX8_link cX8_link 4 none) ({ frames := 1, cells := 0, slots := 0, locals := 22 } : Room) M0 N [.ref a, .ref (a + 1), .int p2, .int p3] (qMod N none (fun M' => qLT cs M' a (s_X8_link_l v p2 p3) ∧ qFr (qIn a 4) M0 M')) 0 0 := by
  obtain ⟨R, hR⟩ : ∃ R, s_X8_link_l v p2 p3 = R := ⟨_, rfl⟩
  rw [hR]
  rw [s_X8_link_l] at hR
  refine q_head (by decide +kernel) ?_ (Nat.le_of_ble_eq_true rfl)
  intro p e s m below meth c ls hx hb hret hlk hml hown hnm hg hK hN hI hl
  have hl : lv_has ls 4 [(0, .ref a), (1, .ref (a + 1)), (2, .int p2), (3, .int p3)] := hl
  have hS : qFr (qIn a 4) M0 M0 := qFr.rf
  refine lv_aload_n hx hb dX8_link_0 rfl (lv_at hl 1 rfl) ?_
  refine lv_iload_n hx hb dX8_link_1 rfl (lv_at hl 2 rfl) ?_
  refine lv_iload_n hx hb dX8_link_2 rfl (lv_at hl 3 rfl) ?_
  refine q_goN (q_runSN (As := [.ref (a + 1), .int p2, .int p3]) (rest := []) hx hb hml hown hg (c_X10_put l D cs hL0.2.1 p2 p3) v_X10_put (hK.2 _ (List.mem_of_getElem? (i := 36) rfl)) rfl rfl ⟨Nat.le_of_ble_eq_true rfl, Nat.le_of_ble_eq_true rfl⟩ hI hK hl.1 rfl rfl (Nat.le_of_ble_eq_true rfl) dX8_link_3 ⟨Nat.le_of_ble_eq_true rfl, Nat.le_of_ble_eq_true rfl⟩) hI (fun M H locs hp hI => ?_)
  obtain ⟨hn0, hF⟩ := hp
  generalize heg1 : rowPut v.1 p2 p3 = g1 at hn0 hR
  have hn := hn0
  have hn : qLT cs M a (g1, v.2.1, v.2.2.1, v.2.2.2) := qLT.s0 (v := v) hL0 hn (qFr.rf.tr hF (fun q hq => by omega))
  have hL0 := hn
  have hS := hS.tr hF (fun q hq => by omega)
  refine lv_aload_n hx hb dX8_link_6 rfl (lv_at hl 0 rfl) ?_
  refine q_get hx hb hg in_X8 hown hK hI hL0.1 rfl 2 (by decide) (hg _ wf_X8_18) (fun _ h9 => h9) rfl dX8_link_7 ?_
  refine lv_iload_n hx hb dX8_link_10 rfl (lv_at hl 3 rfl) ?_
  refine lv_iload_n hx hb dX8_link_11 rfl (lv_at hl 2 rfl) ?_
  refine q_goN (q_runSN (As := [.ref (a + 3), .int p3, .int p2]) (rest := []) hx hb hml hown hg (c_X10_put l D cs hL0.2.2.2 p3 p2) v_X10_put (hK.2 _ (List.mem_of_getElem? (i := 36) rfl)) rfl rfl ⟨Nat.le_of_ble_eq_true rfl, Nat.le_of_ble_eq_true rfl⟩ hI hK hl.1 rfl rfl (Nat.le_of_ble_eq_true rfl) dX8_link_12 ⟨Nat.le_of_ble_eq_true rfl, Nat.le_of_ble_eq_true rfl⟩) hI (fun M H locs hp hI => ?_)
  obtain ⟨hn0, hF⟩ := hp
  generalize heg2 : rowPut v.2.2.1 p3 p2 = g2 at hn0 hR
  have hn := hn0
  have hn : qLT cs M a (g1, v.2.1, g2, v.2.2.2) := qLT.s2 (v := (g1, v.2.1, v.2.2.1, v.2.2.2)) hL0 hn (qFr.rf.tr hF (fun q hq => by omega))
  have hL0 := hn
  have hS := hS.tr hF (fun q hq => by omega)
  exact q_vret (st := []) hx hb hret hlk hN hI (by subst hR; exact ⟨rfl, ⟨hL0, hS⟩, rfl⟩) dX8_link_15
def s_X8_link_r (v : qTV) (p2 : Int32) (p3 : Int32) : qTV := (v.1, (rowPut v.2.1 p2 p3), (rowPut v.2.2.1 p3 p2), v.2.2.2)
set_option maxHeartbeats 4000000 in
set_option maxRecDepth 20000 in
theorem c_X8_link_r (l : Launch) (D : va_G) (cs : qC) {M0 : qM} {N a : Nat} {v : qTV} (hL0 : qLT cs M0 a v) (p2 : Int32) (p3 : Int32) :
    qMet l D cs yX8_link (qws yX8_link cX8_link 4 none) ({ frames := 1, cells := 0, slots := 0, locals := 22 } : Room) M0 N [.ref a, .ref (a + 2), .int p2, .int p3] (qMod N none (fun M' => qLT cs M' a (s_X8_link_r v p2 p3) ∧ qFr (qIn a 4) M0 M')) 0 0 := by
  obtain ⟨R, hR⟩ : ∃ R, s_X8_link_r v p2 p3 = R := ⟨_, rfl⟩
  rw [hR]
  rw [s_X8_link_r] at hR
  refine q_head (by decide +kernel) ?_ (Nat.le_of_ble_eq_true rfl)
  intro p e s m below meth c ls hx hb hret hlk hml hown hnm hg hK hN hI hl
  have hl : lv_has ls 4 [(0, .ref a), (1, .ref (a + 2)), (2, .int p2), (3, .int p3)] := hl
  have hS : qFr (qIn a 4) M0 M0 := qFr.rf
  refine lv_aload_n hx hb dX8_link_0 rfl (lv_at hl 1 rfl) ?_
  refine lv_iload_n hx hb dX8_link_1 rfl (lv_at hl 2 rfl) ?_
  refine lv_iload_n hx hb dX8_link_2 rfl (lv_at hl 3 rfl) ?_
  refine q_goN (q_runSN (As := [.ref (a + 2), .int p2, .int p3]) (rest := []) hx hb hml hown hg (c_X10_put l D cs hL0.2.2.1 p2 p3) v_X10_put (hK.2 _ (List.mem_of_getElem? (i := 36) rfl)) rfl rfl ⟨Nat.le_of_ble_eq_true rfl, Nat.le_of_ble_eq_true rfl⟩ hI hK hl.1 rfl rfl (Nat.le_of_ble_eq_true rfl) dX8_link_3 ⟨Nat.le_of_ble_eq_true rfl, Nat.le_of_ble_eq_true rfl⟩) hI (fun M H locs hp hI => ?_)
  obtain ⟨hn0, hF⟩ := hp
  generalize heg1 : rowPut v.2.1 p2 p3 = g1 at hn0 hR
  have hn := hn0
  have hn : qLT cs M a (v.1, g1, v.2.2.1, v.2.2.2) := qLT.s1 (v := v) hL0 hn (qFr.rf.tr hF (fun q hq => by omega))
  have hL0 := hn
  have hS := hS.tr hF (fun q hq => by omega)
  refine lv_aload_n hx hb dX8_link_6 rfl (lv_at hl 0 rfl) ?_
  refine q_get hx hb hg in_X8 hown hK hI hL0.1 rfl 2 (by decide) (hg _ wf_X8_18) (fun _ h9 => h9) rfl dX8_link_7 ?_
  refine lv_iload_n hx hb dX8_link_10 rfl (lv_at hl 3 rfl) ?_
  refine lv_iload_n hx hb dX8_link_11 rfl (lv_at hl 2 rfl) ?_
  refine q_goN (q_runSN (As := [.ref (a + 3), .int p3, .int p2]) (rest := []) hx hb hml hown hg (c_X10_put l D cs hL0.2.2.2 p3 p2) v_X10_put (hK.2 _ (List.mem_of_getElem? (i := 36) rfl)) rfl rfl ⟨Nat.le_of_ble_eq_true rfl, Nat.le_of_ble_eq_true rfl⟩ hI hK hl.1 rfl rfl (Nat.le_of_ble_eq_true rfl) dX8_link_12 ⟨Nat.le_of_ble_eq_true rfl, Nat.le_of_ble_eq_true rfl⟩) hI (fun M H locs hp hI => ?_)
  obtain ⟨hn0, hF⟩ := hp
  generalize heg2 : rowPut v.2.2.1 p3 p2 = g2 at hn0 hR
  have hn := hn0
  have hn : qLT cs M a (v.1, g1, g2, v.2.2.2) := qLT.s2 (v := (v.1, g1, v.2.2.1, v.2.2.2)) hL0 hn (qFr.rf.tr hF (fun q hq => by omega))
  have hL0 := hn
  have hS := hS.tr hF (fun q hq => by omega)
  exact q_vret (st := []) hx hb hret hlk hN hI (by subst hR; exact ⟨rfl, ⟨hL0, hS⟩, rfl⟩) dX8_link_15
def s_X8_turn (v : qTV) (p1 : Int32) : qTV := (if 0 ≤ (s_X8_upperOf v p1) then (if (s_X8_leftOf v (s_X8_upperOf v p1)) = p1 then (if (s_X8_leftOf (s_X8_link_r (s_X8_link_l v (s_X8_upperOf v p1) (rowAt v.2.1 p1)) p1 (s_X8_upperOf v p1)) (s_X8_upperOf v (s_X8_upperOf v p1))) = (s_X8_upperOf v p1) then ((s_X8_link_l (s_X8_link_r (s_X8_link_l v (s_X8_upperOf v p1) (rowAt v.2.1 p1)) p1 (s_X8_upperOf v p1)) (s_X8_upperOf v (s_X8_upperOf v p1)) p1).1, (s_X8_link_l (s_X8_link_r (s_X8_link_l v (s_X8_upperOf v p1) (rowAt v.2.1 p1)) p1 (s_X8_upperOf v p1)) (s_X8_upperOf v (s_X8_upperOf v p1)) p1).2.1, (s_X8_link_l (s_X8_link_r (s_X8_link_l v (s_X8_upperOf v p1) (rowAt v.2.1 p1)) p1 (s_X8_upperOf v p1)) (s_X8_upperOf v (s_X8_upperOf v p1)) p1).2.2.1, (s_X8_link_l (s_X8_link_r (s_X8_link_l v (s_X8_upperOf v p1) (rowAt v.2.1 p1)) p1 (s_X8_upperOf v p1)) (s_X8_upperOf v (s_X8_upperOf v p1)) p1).2.2.2 + 1) else ((s_X8_link_r (s_X8_link_r (s_X8_link_l v (s_X8_upperOf v p1) (rowAt v.2.1 p1)) p1 (s_X8_upperOf v p1)) (s_X8_upperOf v (s_X8_upperOf v p1)) p1).1, (s_X8_link_r (s_X8_link_r (s_X8_link_l v (s_X8_upperOf v p1) (rowAt v.2.1 p1)) p1 (s_X8_upperOf v p1)) (s_X8_upperOf v (s_X8_upperOf v p1)) p1).2.1, (s_X8_link_r (s_X8_link_r (s_X8_link_l v (s_X8_upperOf v p1) (rowAt v.2.1 p1)) p1 (s_X8_upperOf v p1)) (s_X8_upperOf v (s_X8_upperOf v p1)) p1).2.2.1, (s_X8_link_r (s_X8_link_r (s_X8_link_l v (s_X8_upperOf v p1) (rowAt v.2.1 p1)) p1 (s_X8_upperOf v p1)) (s_X8_upperOf v (s_X8_upperOf v p1)) p1).2.2.2 + 1)) else (if (s_X8_leftOf (s_X8_link_l (s_X8_link_r v (s_X8_upperOf v p1) (rowAt v.1 p1)) p1 (s_X8_upperOf v p1)) (s_X8_upperOf v (s_X8_upperOf v p1))) = (s_X8_upperOf v p1) then ((s_X8_link_l (s_X8_link_l (s_X8_link_r v (s_X8_upperOf v p1) (rowAt v.1 p1)) p1 (s_X8_upperOf v p1)) (s_X8_upperOf v (s_X8_upperOf v p1)) p1).1, (s_X8_link_l (s_X8_link_l (s_X8_link_r v (s_X8_upperOf v p1) (rowAt v.1 p1)) p1 (s_X8_upperOf v p1)) (s_X8_upperOf v (s_X8_upperOf v p1)) p1).2.1, (s_X8_link_l (s_X8_link_l (s_X8_link_r v (s_X8_upperOf v p1) (rowAt v.1 p1)) p1 (s_X8_upperOf v p1)) (s_X8_upperOf v (s_X8_upperOf v p1)) p1).2.2.1, (s_X8_link_l (s_X8_link_l (s_X8_link_r v (s_X8_upperOf v p1) (rowAt v.1 p1)) p1 (s_X8_upperOf v p1)) (s_X8_upperOf v (s_X8_upperOf v p1)) p1).2.2.2 + 1) else ((s_X8_link_r (s_X8_link_l (s_X8_link_r v (s_X8_upperOf v p1) (rowAt v.1 p1)) p1 (s_X8_upperOf v p1)) (s_X8_upperOf v (s_X8_upperOf v p1)) p1).1, (s_X8_link_r (s_X8_link_l (s_X8_link_r v (s_X8_upperOf v p1) (rowAt v.1 p1)) p1 (s_X8_upperOf v p1)) (s_X8_upperOf v (s_X8_upperOf v p1)) p1).2.1, (s_X8_link_r (s_X8_link_l (s_X8_link_r v (s_X8_upperOf v p1) (rowAt v.1 p1)) p1 (s_X8_upperOf v p1)) (s_X8_upperOf v (s_X8_upperOf v p1)) p1).2.2.1, (s_X8_link_r (s_X8_link_l (s_X8_link_r v (s_X8_upperOf v p1) (rowAt v.1 p1)) p1 (s_X8_upperOf v p1)) (s_X8_upperOf v (s_X8_upperOf v p1)) p1).2.2.2 + 1))) else v)
set_option maxHeartbeats 4000000 in
set_option maxRecDepth 20000 in
theorem c_X8_turn (l : Launch) (D : va_G) (cs : qC) {M0 : qM} {N a : Nat} {v : qTV} (hL0 : qLT cs M0 a v) (p1 : Int32) :
    qMet l D cs yX8_turn (qws yX8_turn cX8_turn 7 none) ({ frames := 2, cells := 0, slots := 0, locals := 45 } : Room) M0 N [.ref a, .int p1] (qMod N none (fun M' => qLT cs M' a (s_X8_turn v p1) ∧ qFr (qIn a 4) M0 M')) 0 0 := by
  obtain ⟨R, hR⟩ : ∃ R, s_X8_turn v p1 = R := ⟨_, rfl⟩
  rw [hR]
  rw [s_X8_turn] at hR
  refine q_head (by decide +kernel) ?_ (Nat.le_of_ble_eq_true rfl)
  intro p e s m below meth c ls hx hb hret hlk hml hown hnm hg hK hN hI hl
  have hl : lv_has ls 7 [(0, .ref a), (1, .int p1)] := hl
  have hS : qFr (qIn a 4) M0 M0 := qFr.rf
  refine lv_aload_n hx hb dX8_turn_0 rfl (lv_at hl 0 rfl) ?_
  refine lv_iload_n hx hb dX8_turn_1 rfl (lv_at hl 1 rfl) ?_
  refine q_goR (q_runV (As := [.int p1]) (rest := []) hx hb hml hown hg (c_X8_upperOf l D cs hL0 p1) v_X8_upperOf wl_X8_48 rfl rfl ⟨Nat.le_of_ble_eq_true rfl, Nat.le_of_ble_eq_true rfl⟩ hI hK 9 hL0.1 rfl hl.1 rfl rfl (Nat.le_of_ble_eq_true rfl) dX8_turn_2 ⟨Nat.le_of_ble_eq_true rfl, Nat.le_of_ble_eq_true rfl⟩) hI (fun H locs hI => ?_)
  refine lv_istore_n (lv' := [(2, .int (s_X8_upperOf v p1)), (0, .ref a), (1, .int p1)]) hx hb dX8_turn_5 rfl hl (by decide) rfl (fun ls hl => ?_)
  refine lv_iload_n hx hb dX8_turn_6 rfl (lv_at hl 0 rfl) ?_
  refine lv_if_ge (tgt := 11) hx hb dX8_turn_7 (by decide) (fun c1 => ?_) (fun c1 => ?_)
  · rw [if_pos c1] at hR
    refine lv_aload_n hx hb dX8_turn_11 rfl (lv_at hl 1 rfl) ?_
    refine lv_iload_n hx hb dX8_turn_12 rfl (lv_at hl 0 rfl) ?_
    refine q_goR (q_runV (As := [.int (s_X8_upperOf v p1)]) (rest := []) hx hb hml hown hg (c_X8_upperOf l D cs hL0 (s_X8_upperOf v p1)) v_X8_upperOf wl_X8_48 rfl rfl ⟨Nat.le_of_ble_eq_true rfl, Nat.le_of_ble_eq_true rfl⟩ hI hK 9 hL0.1 rfl hl.1 rfl rfl (Nat.le_of_ble_eq_true rfl) dX8_turn_13 ⟨Nat.le_of_ble_eq_true rfl, Nat.le_of_ble_eq_true rfl⟩) hI (fun H locs hI => ?_)
    refine lv_istore_n (lv' := [(3, .int (s_X8_upperOf v (s_X8_upperOf v p1))), (2, .int (s_X8_upperOf v p1)), (0, .ref a), (1, .int p1)]) hx hb dX8_turn_16 rfl hl (by decide) rfl (fun ls hl => ?_)
    refine lv_aload_n hx hb dX8_turn_17 rfl (lv_at hl 2 rfl) ?_
    refine lv_iload_n hx hb dX8_turn_18 rfl (lv_at hl 1 rfl) ?_
    refine q_goR (q_runV (As := [.int (s_X8_upperOf v p1)]) (rest := []) hx hb hml hown hg (c_X8_leftOf l D cs hL0 (s_X8_upperOf v p1)) v_X8_leftOf wl_X8_71 rfl rfl ⟨Nat.le_of_ble_eq_true rfl, Nat.le_of_ble_eq_true rfl⟩ hI hK 9 hL0.1 rfl hl.1 rfl rfl (Nat.le_of_ble_eq_true rfl) dX8_turn_19 ⟨Nat.le_of_ble_eq_true rfl, Nat.le_of_ble_eq_true rfl⟩) hI (fun H locs hI => ?_)
    refine lv_iload_n hx hb dX8_turn_22 rfl (lv_at hl 3 rfl) ?_
    refine lv_icmp_ne (tgt := 30) hx hb dX8_turn_23 (by decide) (fun c2 => ?_) (fun c2 => ?_)
    · rw [if_neg c2] at hR
      refine lv_iconst (v := 0) hx hb dX8_turn_30 (by decide) ?_
      refine lv_istore (lv' := [(4, .int 0), (3, .int (s_X8_upperOf v (s_X8_upperOf v p1))), (2, .int (s_X8_upperOf v p1)), (0, .ref a), (1, .int p1)]) hx hb dX8_turn_31 hl (by decide) rfl (fun ls hl => ?_)
      refine lv_iload hx hb dX8_turn_33 (lv_at hl 0 rfl) ?_
      refine lv_if_eq (tgt := 45) hx hb dX8_turn_35 (by decide) (fun c3 => ?_) (fun c3 => absurd c3 (by decide))
      refine lv_aload_n hx hb dX8_turn_45 rfl (lv_at hl 3 rfl) ?_
      refine q_get hx hb hg in_X8 hown hK hI hL0.1 rfl 1 (by decide) (hg _ wf_X8_15) (fun _ h9 => h9) rfl dX8_turn_46 ?_
      refine lv_astore (lv' := [(5, .ref (a + 2)), (4, .int 0), (3, .int (s_X8_upperOf v (s_X8_upperOf v p1))), (2, .int (s_X8_upperOf v p1)), (0, .ref a), (1, .int p1)]) hx hb dX8_turn_49 hl (by decide) rfl (fun ls hl => ?_)
      refine lv_iload hx hb dX8_turn_51 (lv_at hl 1 rfl) ?_
      refine lv_if_eq (tgt := 63) hx hb dX8_turn_53 (by decide) (fun c4 => ?_) (fun c4 => absurd c4 (by decide))
      refine lv_aload_n hx hb dX8_turn_63 rfl (lv_at hl 4 rfl) ?_
      refine q_get hx hb hg in_X8 hown hK hI hL0.1 rfl 0 (by decide) (hg _ wf_X8_9) (fun _ h9 => h9) rfl dX8_turn_64 ?_
      refine lv_astore (lv' := [(6, .ref (a + 1)), (5, .ref (a + 2)), (4, .int 0), (3, .int (s_X8_upperOf v (s_X8_upperOf v p1))), (2, .int (s_X8_upperOf v p1)), (0, .ref a), (1, .int p1)]) hx hb dX8_turn_67 hl (by decide) rfl (fun ls hl => ?_)
      refine lv_aload_n hx hb dX8_turn_69 rfl (lv_at hl 5 rfl) ?_
      refine lv_aload hx hb dX8_turn_70 (lv_at hl 1 rfl) ?_
      refine lv_iload_n hx hb dX8_turn_72 rfl (lv_at hl 4 rfl) ?_
      refine lv_aload hx hb dX8_turn_73 (lv_at hl 0 rfl) ?_
      refine lv_iload_n hx hb dX8_turn_75 rfl (lv_at hl 6 rfl) ?_
      refine q_goR (q_runSN (As := [.ref (a + 1), .int p1]) (rest := [.int (s_X8_upperOf v p1), .ref (a + 2), .ref a]) hx hb hml hown hg (c_X10_at l D cs hL0.2.1 p1) v_X10_at (hK.2 _ (List.mem_of_getElem? (i := 35) rfl)) rfl rfl ⟨Nat.le_of_ble_eq_true rfl, Nat.le_of_ble_eq_true rfl⟩ hI hK hl.1 rfl rfl (Nat.le_of_ble_eq_true rfl) dX8_turn_76 ⟨Nat.le_of_ble_eq_true rfl, Nat.le_of_ble_eq_true rfl⟩) hI (fun H locs hI => ?_)
      refine q_goN (q_runV (As := [.ref (a + 2), .int (s_X8_upperOf v p1), .int (rowAt v.1 p1)]) (rest := []) hx hb hml hown hg (c_X8_link_r l D cs hL0 (s_X8_upperOf v p1) (rowAt v.1 p1)) v_X8_link wl_X8_74 rfl rfl ⟨Nat.le_of_ble_eq_true rfl, Nat.le_of_ble_eq_true rfl⟩ hI hK 9 hL0.1 rfl hl.1 rfl rfl (Nat.le_of_ble_eq_true rfl) dX8_turn_79 ⟨Nat.le_of_ble_eq_true rfl, Nat.le_of_ble_eq_true rfl⟩) hI (fun M H locs hp hI => ?_)
      obtain ⟨hn0, hF⟩ := hp
      generalize heg5 : s_X8_link_r v (s_X8_upperOf v p1) (rowAt v.1 p1) = g5 at hn0 hR
      have hn := hn0
      have hL0 := hn
      have hS := hS.tr hF (fun q hq => by omega)
      refine lv_aload_n hx hb dX8_turn_82 rfl (lv_at hl 5 rfl) ?_
      refine lv_aload hx hb dX8_turn_83 (lv_at hl 0 rfl) ?_
      refine lv_iload_n hx hb dX8_turn_85 rfl (lv_at hl 6 rfl) ?_
      refine lv_iload_n hx hb dX8_turn_86 rfl (lv_at hl 4 rfl) ?_
      refine q_goN (q_runV (As := [.ref (a + 1), .int p1, .int (s_X8_upperOf v p1)]) (rest := []) hx hb hml hown hg (c_X8_link_l l D cs hL0 p1 (s_X8_upperOf v p1)) v_X8_link wl_X8_74 rfl rfl ⟨Nat.le_of_ble_eq_true rfl, Nat.le_of_ble_eq_true rfl⟩ hI hK 9 hL0.1 rfl hl.1 rfl rfl (Nat.le_of_ble_eq_true rfl) dX8_turn_87 ⟨Nat.le_of_ble_eq_true rfl, Nat.le_of_ble_eq_true rfl⟩) hI (fun M H locs hp hI => ?_)
      obtain ⟨hn0, hF⟩ := hp
      generalize heg6 : s_X8_link_l g5 p1 (s_X8_upperOf v p1) = g6 at hn0 hR
      have hn := hn0
      have hL0 := hn
      have hS := hS.tr hF (fun q hq => by omega)
      refine lv_aload_n hx hb dX8_turn_90 rfl (lv_at hl 5 rfl) ?_
      refine lv_aload_n hx hb dX8_turn_91 rfl (lv_at hl 5 rfl) ?_
      refine lv_iload_n hx hb dX8_turn_92 rfl (lv_at hl 3 rfl) ?_
      refine q_goR (q_runV (As := [.int (s_X8_upperOf v (s_X8_upperOf v p1))]) (rest := [.ref a]) hx hb hml hown hg (c_X8_leftOf l D cs hL0 (s_X8_upperOf v (s_X8_upperOf v p1))) v_X8_leftOf wl_X8_71 rfl rfl ⟨Nat.le_of_ble_eq_true rfl, Nat.le_of_ble_eq_true rfl⟩ hI hK 9 hL0.1 rfl hl.1 rfl rfl (Nat.le_of_ble_eq_true rfl) dX8_turn_93 ⟨Nat.le_of_ble_eq_true rfl, Nat.le_of_ble_eq_true rfl⟩) hI (fun H locs hI => ?_)
      refine lv_iload_n hx hb dX8_turn_96 rfl (lv_at hl 4 rfl) ?_
      refine lv_icmp_ne (tgt := 107) hx hb dX8_turn_97 (by decide) (fun c7 => ?_) (fun c7 => ?_)
      · rw [if_neg c7] at hR
        refine lv_aload_n hx hb dX8_turn_107 rfl (lv_at hl 5 rfl) ?_
        refine q_get hx hb hg in_X8 hown hK hI hL0.1 rfl 1 (by decide) (hg _ wf_X8_15) (fun _ h9 => h9) rfl dX8_turn_108 ?_
        refine lv_iload_n hx hb dX8_turn_111 rfl (lv_at hl 3 rfl) ?_
        refine lv_iload_n hx hb dX8_turn_112 rfl (lv_at hl 6 rfl) ?_
        refine q_goN (q_runV (As := [.ref (a + 2), .int (s_X8_upperOf v (s_X8_upperOf v p1)), .int p1]) (rest := []) hx hb hml hown hg (c_X8_link_r l D cs hL0 (s_X8_upperOf v (s_X8_upperOf v p1)) p1) v_X8_link wl_X8_74 rfl rfl ⟨Nat.le_of_ble_eq_true rfl, Nat.le_of_ble_eq_true rfl⟩ hI hK 9 hL0.1 rfl hl.1 rfl rfl (Nat.le_of_ble_eq_true rfl) dX8_turn_113 ⟨Nat.le_of_ble_eq_true rfl, Nat.le_of_ble_eq_true rfl⟩) hI (fun M H locs hp hI => ?_)
        obtain ⟨hn0, hF⟩ := hp
        generalize heg8 : s_X8_link_r g6 (s_X8_upperOf v (s_X8_upperOf v p1)) p1 = g8 at hn0 hR
        have hn := hn0
        have hL0 := hn
        have hS := hS.tr hF (fun q hq => by omega)
        refine lv_aload_n hx hb dX8_turn_116 rfl (lv_at hl 5 rfl) ?_
        refine lv_dup hx hb dX8_turn_117 rfl ?_
        refine q_get hx hb hg in_X8 hown hK hI hL0.1 rfl 3 (by decide) (hg _ wf_X8_21) (fun _ h9 => h9) rfl dX8_turn_118 ?_
        refine lv_iconst (v := 1) hx hb dX8_turn_121 (by decide) ?_
        refine lv_iadd hx hb dX8_turn_122 ?_
        have hn := qLT.i3 (g8.2.2.2 + 1) hL0
        refine q_put (v := .int (g8.2.2.2 + 1)) hx hb hg in_X8 tyX8_ok nmX8 hown hK hI hL0.1 rfl 3 (by decide) (hg _ wf_X8_21) (fun _ h9 => h9) rfl rfl rfl (Nat.le_of_ble_eq_true rfl) dX8_turn_123 (fun H locs hI => ?_)
        obtain ⟨M, hn, hF, hI⟩ : ∃ Mx : qM, qLT cs Mx a (g8.1, g8.2.1, g8.2.2.1, g8.2.2.2 + 1) ∧ qFr (qIn a 1) M Mx ∧ qI D M0 s.heap Mx N H locs := ⟨_, hn, qFr.up (by decide), hI⟩
        have hL0 := hn
        have hS := hS.tr hF (fun q hq => by omega)
        exact q_vret (st := []) hx hb hret hlk hN hI (by subst hR; exact ⟨rfl, ⟨hL0, hS⟩, rfl⟩) dX8_turn_126
      · rw [if_pos c7] at hR
        refine lv_aload_n hx hb dX8_turn_100 rfl (lv_at hl 5 rfl) ?_
        refine q_get hx hb hg in_X8 hown hK hI hL0.1 rfl 0 (by decide) (hg _ wf_X8_9) (fun _ h9 => h9) rfl dX8_turn_101 ?_
        refine lv_goto (tgt := 111) hx hb dX8_turn_104 (by decide) ?_
        refine lv_iload_n hx hb dX8_turn_111 rfl (lv_at hl 3 rfl) ?_
        refine lv_iload_n hx hb dX8_turn_112 rfl (lv_at hl 6 rfl) ?_
        refine q_goN (q_runV (As := [.ref (a + 1), .int (s_X8_upperOf v (s_X8_upperOf v p1)), .int p1]) (rest := []) hx hb hml hown hg (c_X8_link_l l D cs hL0 (s_X8_upperOf v (s_X8_upperOf v p1)) p1) v_X8_link wl_X8_74 rfl rfl ⟨Nat.le_of_ble_eq_true rfl, Nat.le_of_ble_eq_true rfl⟩ hI hK 9 hL0.1 rfl hl.1 rfl rfl (Nat.le_of_ble_eq_true rfl) dX8_turn_113 ⟨Nat.le_of_ble_eq_true rfl, Nat.le_of_ble_eq_true rfl⟩) hI (fun M H locs hp hI => ?_)
        obtain ⟨hn0, hF⟩ := hp
        generalize heg9 : s_X8_link_l g6 (s_X8_upperOf v (s_X8_upperOf v p1)) p1 = g9 at hn0 hR
        have hn := hn0
        have hL0 := hn
        have hS := hS.tr hF (fun q hq => by omega)
        refine lv_aload_n hx hb dX8_turn_116 rfl (lv_at hl 5 rfl) ?_
        refine lv_dup hx hb dX8_turn_117 rfl ?_
        refine q_get hx hb hg in_X8 hown hK hI hL0.1 rfl 3 (by decide) (hg _ wf_X8_21) (fun _ h9 => h9) rfl dX8_turn_118 ?_
        refine lv_iconst (v := 1) hx hb dX8_turn_121 (by decide) ?_
        refine lv_iadd hx hb dX8_turn_122 ?_
        have hn := qLT.i3 (g9.2.2.2 + 1) hL0
        refine q_put (v := .int (g9.2.2.2 + 1)) hx hb hg in_X8 tyX8_ok nmX8 hown hK hI hL0.1 rfl 3 (by decide) (hg _ wf_X8_21) (fun _ h9 => h9) rfl rfl rfl (Nat.le_of_ble_eq_true rfl) dX8_turn_123 (fun H locs hI => ?_)
        obtain ⟨M, hn, hF, hI⟩ : ∃ Mx : qM, qLT cs Mx a (g9.1, g9.2.1, g9.2.2.1, g9.2.2.2 + 1) ∧ qFr (qIn a 1) M Mx ∧ qI D M0 s.heap Mx N H locs := ⟨_, hn, qFr.up (by decide), hI⟩
        have hL0 := hn
        have hS := hS.tr hF (fun q hq => by omega)
        exact q_vret (st := []) hx hb hret hlk hN hI (by subst hR; exact ⟨rfl, ⟨hL0, hS⟩, rfl⟩) dX8_turn_126
    · rw [if_pos c2] at hR
      refine lv_iconst (v := 1) hx hb dX8_turn_26 (by decide) ?_
      refine lv_goto (tgt := 31) hx hb dX8_turn_27 (by decide) ?_
      refine lv_istore (lv' := [(4, .int 1), (3, .int (s_X8_upperOf v (s_X8_upperOf v p1))), (2, .int (s_X8_upperOf v p1)), (0, .ref a), (1, .int p1)]) hx hb dX8_turn_31 hl (by decide) rfl (fun ls hl => ?_)
      refine lv_iload hx hb dX8_turn_33 (lv_at hl 0 rfl) ?_
      refine lv_if_eq (tgt := 45) hx hb dX8_turn_35 (by decide) (fun c10 => absurd c10 (by decide)) (fun c10 => ?_)
      refine lv_aload_n hx hb dX8_turn_38 rfl (lv_at hl 3 rfl) ?_
      refine q_get hx hb hg in_X8 hown hK hI hL0.1 rfl 0 (by decide) (hg _ wf_X8_9) (fun _ h9 => h9) rfl dX8_turn_39 ?_
      refine lv_goto (tgt := 49) hx hb dX8_turn_42 (by decide) ?_
      refine lv_astore (lv' := [(5, .ref (a + 1)), (4, .int 1), (3, .int (s_X8_upperOf v (s_X8_upperOf v p1))), (2, .int (s_X8_upperOf v p1)), (0, .ref a), (1, .int p1)]) hx hb dX8_turn_49 hl (by decide) rfl (fun ls hl => ?_)
      refine lv_iload hx hb dX8_turn_51 (lv_at hl 1 rfl) ?_
      refine lv_if_eq (tgt := 63) hx hb dX8_turn_53 (by decide) (fun c11 => absurd c11 (by decide)) (fun c11 => ?_)
      refine lv_aload_n hx hb dX8_turn_56 rfl (lv_at hl 4 rfl) ?_
      refine q_get hx hb hg in_X8 hown hK hI hL0.1 rfl 1 (by decide) (hg _ wf_X8_15) (fun _ h9 => h9) rfl dX8_turn_57 ?_
      refine lv_goto (tgt := 67) hx hb dX8_turn_60 (by decide) ?_
      refine lv_astore (lv' := [(6, .ref (a + 2)), (5, .ref (a + 1)), (4, .int 1), (3, .int (s_X8_upperOf v (s_X8_upperOf v p1))), (2, .int (s_X8_upperOf v p1)), (0, .ref a), (1, .int p1)]) hx hb dX8_turn_67 hl (by decide) rfl (fun ls hl => ?_)
      refine lv_aload_n hx hb dX8_turn_69 rfl (lv_at hl 5 rfl) ?_
      refine lv_aload hx hb dX8_turn_70 (lv_at hl 1 rfl) ?_
      refine lv_iload_n hx hb dX8_turn_72 rfl (lv_at hl 4 rfl) ?_
      refine lv_aload hx hb dX8_turn_73 (lv_at hl 0 rfl) ?_
      refine lv_iload_n hx hb dX8_turn_75 rfl (lv_at hl 6 rfl) ?_
      refine q_goR (q_runSN (As := [.ref (a + 2), .int p1]) (rest := [.int (s_X8_upperOf v p1), .ref (a + 1), .ref a]) hx hb hml hown hg (c_X10_at l D cs hL0.2.2.1 p1) v_X10_at (hK.2 _ (List.mem_of_getElem? (i := 35) rfl)) rfl rfl ⟨Nat.le_of_ble_eq_true rfl, Nat.le_of_ble_eq_true rfl⟩ hI hK hl.1 rfl rfl (Nat.le_of_ble_eq_true rfl) dX8_turn_76 ⟨Nat.le_of_ble_eq_true rfl, Nat.le_of_ble_eq_true rfl⟩) hI (fun H locs hI => ?_)
      refine q_goN (q_runV (As := [.ref (a + 1), .int (s_X8_upperOf v p1), .int (rowAt v.2.1 p1)]) (rest := []) hx hb hml hown hg (c_X8_link_l l D cs hL0 (s_X8_upperOf v p1) (rowAt v.2.1 p1)) v_X8_link wl_X8_74 rfl rfl ⟨Nat.le_of_ble_eq_true rfl, Nat.le_of_ble_eq_true rfl⟩ hI hK 9 hL0.1 rfl hl.1 rfl rfl (Nat.le_of_ble_eq_true rfl) dX8_turn_79 ⟨Nat.le_of_ble_eq_true rfl, Nat.le_of_ble_eq_true rfl⟩) hI (fun M H locs hp hI => ?_)
      obtain ⟨hn0, hF⟩ := hp
      generalize heg12 : s_X8_link_l v (s_X8_upperOf v p1) (rowAt v.2.1 p1) = g12 at hn0 hR
      have hn := hn0
      have hL0 := hn
      have hS := hS.tr hF (fun q hq => by omega)
      refine lv_aload_n hx hb dX8_turn_82 rfl (lv_at hl 5 rfl) ?_
      refine lv_aload hx hb dX8_turn_83 (lv_at hl 0 rfl) ?_
      refine lv_iload_n hx hb dX8_turn_85 rfl (lv_at hl 6 rfl) ?_
      refine lv_iload_n hx hb dX8_turn_86 rfl (lv_at hl 4 rfl) ?_
      refine q_goN (q_runV (As := [.ref (a + 2), .int p1, .int (s_X8_upperOf v p1)]) (rest := []) hx hb hml hown hg (c_X8_link_r l D cs hL0 p1 (s_X8_upperOf v p1)) v_X8_link wl_X8_74 rfl rfl ⟨Nat.le_of_ble_eq_true rfl, Nat.le_of_ble_eq_true rfl⟩ hI hK 9 hL0.1 rfl hl.1 rfl rfl (Nat.le_of_ble_eq_true rfl) dX8_turn_87 ⟨Nat.le_of_ble_eq_true rfl, Nat.le_of_ble_eq_true rfl⟩) hI (fun M H locs hp hI => ?_)
      obtain ⟨hn0, hF⟩ := hp
      generalize heg13 : s_X8_link_r g12 p1 (s_X8_upperOf v p1) = g13 at hn0 hR
      have hn := hn0
      have hL0 := hn
      have hS := hS.tr hF (fun q hq => by omega)
      refine lv_aload_n hx hb dX8_turn_90 rfl (lv_at hl 5 rfl) ?_
      refine lv_aload_n hx hb dX8_turn_91 rfl (lv_at hl 5 rfl) ?_
      refine lv_iload_n hx hb dX8_turn_92 rfl (lv_at hl 3 rfl) ?_
      refine q_goR (q_runV (As := [.int (s_X8_upperOf v (s_X8_upperOf v p1))]) (rest := [.ref a]) hx hb hml hown hg (c_X8_leftOf l D cs hL0 (s_X8_upperOf v (s_X8_upperOf v p1))) v_X8_leftOf wl_X8_71 rfl rfl ⟨Nat.le_of_ble_eq_true rfl, Nat.le_of_ble_eq_true rfl⟩ hI hK 9 hL0.1 rfl hl.1 rfl rfl (Nat.le_of_ble_eq_true rfl) dX8_turn_93 ⟨Nat.le_of_ble_eq_true rfl, Nat.le_of_ble_eq_true rfl⟩) hI (fun H locs hI => ?_)
      refine lv_iload_n hx hb dX8_turn_96 rfl (lv_at hl 4 rfl) ?_
      refine lv_icmp_ne (tgt := 107) hx hb dX8_turn_97 (by decide) (fun c14 => ?_) (fun c14 => ?_)
      · rw [if_neg c14] at hR
        refine lv_aload_n hx hb dX8_turn_107 rfl (lv_at hl 5 rfl) ?_
        refine q_get hx hb hg in_X8 hown hK hI hL0.1 rfl 1 (by decide) (hg _ wf_X8_15) (fun _ h9 => h9) rfl dX8_turn_108 ?_
        refine lv_iload_n hx hb dX8_turn_111 rfl (lv_at hl 3 rfl) ?_
        refine lv_iload_n hx hb dX8_turn_112 rfl (lv_at hl 6 rfl) ?_
        refine q_goN (q_runV (As := [.ref (a + 2), .int (s_X8_upperOf v (s_X8_upperOf v p1)), .int p1]) (rest := []) hx hb hml hown hg (c_X8_link_r l D cs hL0 (s_X8_upperOf v (s_X8_upperOf v p1)) p1) v_X8_link wl_X8_74 rfl rfl ⟨Nat.le_of_ble_eq_true rfl, Nat.le_of_ble_eq_true rfl⟩ hI hK 9 hL0.1 rfl hl.1 rfl rfl (Nat.le_of_ble_eq_true rfl) dX8_turn_113 ⟨Nat.le_of_ble_eq_true rfl, Nat.le_of_ble_eq_true rfl⟩) hI (fun M H locs hp hI => ?_)
        obtain ⟨hn0, hF⟩ := hp
        generalize heg15 : s_X8_link_r g13 (s_X8_upperOf v (s_X8_upperOf v p1)) p1 = g15 at hn0 hR
        have hn := hn0
        have hL0 := hn
        have hS := hS.tr hF (fun q hq => by omega)
        refine lv_aload_n hx hb dX8_turn_116 rfl (lv_at hl 5 rfl) ?_
        refine lv_dup hx hb dX8_turn_117 rfl ?_
        refine q_get hx hb hg in_X8 hown hK hI hL0.1 rfl 3 (by decide) (hg _ wf_X8_21) (fun _ h9 => h9) rfl dX8_turn_118 ?_
        refine lv_iconst (v := 1) hx hb dX8_turn_121 (by decide) ?_
        refine lv_iadd hx hb dX8_turn_122 ?_
        have hn := qLT.i3 (g15.2.2.2 + 1) hL0
        refine q_put (v := .int (g15.2.2.2 + 1)) hx hb hg in_X8 tyX8_ok nmX8 hown hK hI hL0.1 rfl 3 (by decide) (hg _ wf_X8_21) (fun _ h9 => h9) rfl rfl rfl (Nat.le_of_ble_eq_true rfl) dX8_turn_123 (fun H locs hI => ?_)
        obtain ⟨M, hn, hF, hI⟩ : ∃ Mx : qM, qLT cs Mx a (g15.1, g15.2.1, g15.2.2.1, g15.2.2.2 + 1) ∧ qFr (qIn a 1) M Mx ∧ qI D M0 s.heap Mx N H locs := ⟨_, hn, qFr.up (by decide), hI⟩
        have hL0 := hn
        have hS := hS.tr hF (fun q hq => by omega)
        exact q_vret (st := []) hx hb hret hlk hN hI (by subst hR; exact ⟨rfl, ⟨hL0, hS⟩, rfl⟩) dX8_turn_126
      · rw [if_pos c14] at hR
        refine lv_aload_n hx hb dX8_turn_100 rfl (lv_at hl 5 rfl) ?_
        refine q_get hx hb hg in_X8 hown hK hI hL0.1 rfl 0 (by decide) (hg _ wf_X8_9) (fun _ h9 => h9) rfl dX8_turn_101 ?_
        refine lv_goto (tgt := 111) hx hb dX8_turn_104 (by decide) ?_
        refine lv_iload_n hx hb dX8_turn_111 rfl (lv_at hl 3 rfl) ?_
        refine lv_iload_n hx hb dX8_turn_112 rfl (lv_at hl 6 rfl) ?_
        refine q_goN (q_runV (As := [.ref (a + 1), .int (s_X8_upperOf v (s_X8_upperOf v p1)), .int p1]) (rest := []) hx hb hml hown hg (c_X8_link_l l D cs hL0 (s_X8_upperOf v (s_X8_upperOf v p1)) p1) v_X8_link wl_X8_74 rfl rfl ⟨Nat.le_of_ble_eq_true rfl, Nat.le_of_ble_eq_true rfl⟩ hI hK 9 hL0.1 rfl hl.1 rfl rfl (Nat.le_of_ble_eq_true rfl) dX8_turn_113 ⟨Nat.le_of_ble_eq_true rfl, Nat.le_of_ble_eq_true rfl⟩) hI (fun M H locs hp hI => ?_)
        obtain ⟨hn0, hF⟩ := hp
        generalize heg16 : s_X8_link_l g13 (s_X8_upperOf v (s_X8_upperOf v p1)) p1 = g16 at hn0 hR
        have hn := hn0
        have hL0 := hn
        have hS := hS.tr hF (fun q hq => by omega)
        refine lv_aload_n hx hb dX8_turn_116 rfl (lv_at hl 5 rfl) ?_
        refine lv_dup hx hb dX8_turn_117 rfl ?_
        refine q_get hx hb hg in_X8 hown hK hI hL0.1 rfl 3 (by decide) (hg _ wf_X8_21) (fun _ h9 => h9) rfl dX8_turn_118 ?_
        refine lv_iconst (v := 1) hx hb dX8_turn_121 (by decide) ?_
        refine lv_iadd hx hb dX8_turn_122 ?_
        have hn := qLT.i3 (g16.2.2.2 + 1) hL0
        refine q_put (v := .int (g16.2.2.2 + 1)) hx hb hg in_X8 tyX8_ok nmX8 hown hK hI hL0.1 rfl 3 (by decide) (hg _ wf_X8_21) (fun _ h9 => h9) rfl rfl rfl (Nat.le_of_ble_eq_true rfl) dX8_turn_123 (fun H locs hI => ?_)
        obtain ⟨M, hn, hF, hI⟩ : ∃ Mx : qM, qLT cs Mx a (g16.1, g16.2.1, g16.2.2.1, g16.2.2.2 + 1) ∧ qFr (qIn a 1) M Mx ∧ qI D M0 s.heap Mx N H locs := ⟨_, hn, qFr.up (by decide), hI⟩
        have hL0 := hn
        have hS := hS.tr hF (fun q hq => by omega)
        exact q_vret (st := []) hx hb hret hlk hN hI (by subst hR; exact ⟨rfl, ⟨hL0, hS⟩, rfl⟩) dX8_turn_126
  · rw [if_neg c1] at hR
    exact q_vret (st := []) hx hb hret hlk hN hI (by subst hR; exact ⟨rfl, ⟨hL0, hS⟩, rfl⟩) dX8_turn_10
def s_X8_splay_L2 (p1 : Int32) : Nat → Int32 → qTV → qTV
  | 0, _, _ => default
  | n + 1, x2h2, z0 => (if 16 ≤ x2h2 then z0 else (if (s_X8_upperOf z0 p1) < 0 then z0 else (if (s_X8_upperOf z0 (s_X8_upperOf z0 p1)) < 0 then (s_X8_splay_L2 p1 n (x2h2 + 1) (s_X8_turn z0 p1)) else (if (s_X8_leftOf z0 (s_X8_upperOf z0 p1)) = p1 then (if (s_X8_leftOf z0 (s_X8_upperOf z0 (s_X8_upperOf z0 p1))) = (s_X8_upperOf z0 p1) then (s_X8_splay_L2 p1 n (x2h2 + 1) (s_X8_turn (s_X8_turn z0 (s_X8_upperOf z0 p1)) p1)) else (s_X8_splay_L2 p1 n (x2h2 + 1) (s_X8_turn (s_X8_turn z0 p1) p1))) else (if (s_X8_leftOf z0 (s_X8_upperOf z0 (s_X8_upperOf z0 p1))) = (s_X8_upperOf z0 p1) then (s_X8_splay_L2 p1 n (x2h2 + 1) (s_X8_turn (s_X8_turn z0 p1) p1)) else (s_X8_splay_L2 p1 n (x2h2 + 1) (s_X8_turn (s_X8_turn z0 (s_X8_upperOf z0 p1)) p1)))))))
def s_X8_splay (v : qTV) (p1 : Int32) : qTV := (s_X8_splay_L2 p1 ((16 : Int32).toInt.toNat + 1) 0 v)
set_option maxHeartbeats 4000000 in
set_option maxRecDepth 20000 in
theorem c_X8_splay (l : Launch) (D : va_G) (cs : qC) {M0 : qM} {N a : Nat} {v : qTV} (hL0 : qLT cs M0 a v) (p1 : Int32) :
    qMet l D cs yX8_splay (qws yX8_splay cX8_splay 6 none) ({ frames := 3, cells := 0, slots := 0, locals := 71 } : Room) M0 N [.ref a, .int p1] (qMod N none (fun M' => qLT cs M' a (s_X8_splay v p1) ∧ qFr (qIn a 4) M0 M')) 0 0 := by
  obtain ⟨R, hR⟩ : ∃ R, s_X8_splay v p1 = R := ⟨_, rfl⟩
  rw [hR]
  rw [s_X8_splay] at hR
  refine q_head (by decide +kernel) ?_ (Nat.le_of_ble_eq_true rfl)
  intro p e s m below meth c ls hx hb hret hlk hml hown hnm hg hK hN hI hl
  have hl : lv_has ls 6 [(0, .ref a), (1, .int p1)] := hl
  have hS : qFr (qIn a 4) M0 M0 := qFr.rf
  refine lv_iconst (v := 0) hx hb dX8_splay_0 (by decide) ?_
  refine lv_istore_n (lv' := [(2, .int 0), (0, .ref a), (1, .int p1)]) hx hb dX8_splay_1 rfl hl (by decide) rfl (fun ls hl => ?_)
  have loop2 : ∀ (n2 : Nat) (x2h2 : Int32) (z0 : qTV), qmu 16 x2h2 < n2 → s_X8_splay_L2 p1 n2 x2h2 z0 = R → ∀ (M : qM) (H : Heap) (locs : List Loc) (ls : Array Slot), qLT cs M a z0 → qFr (qIn a 4) M0 M → qI D M0 s.heap M N H locs → lv_has ls 6 [(0, .ref a), (1, .int p1), (2, .int x2h2)] →
      W p l e ({ frames := 3, cells := 0, slots := 0, locals := 71 } : Room) s m [Value.ref a, Value.int p1].toArray below meth c H locs 0 0 (MQ below (qQ D M0 N (qMod N none (fun M' => qLT cs M' a R ∧ qFr (qIn a 4) M0 M'))) [Value.ref a, Value.int p1].toArray s 0 0 (qA M0 N)) (F0 m 2 ls []) := by
    intro n2
    induction n2 with
    | zero => intro x2h2 z0 hm; exact absurd hm (Nat.not_lt_zero _)
    | succ n2 ih2 =>
      intro x2h2 z0 hm2 hR M H locs ls hL0 hS hI hl
      rw [s_X8_splay_L2] at hR
      refine lv_iload_n hx hb dX8_splay_2 rfl (lv_at hl 2 rfl) ?_
      refine lv_bipush (v := 16) hx hb dX8_splay_3 (by decide) ?_
      refine lv_icmp_ge (tgt := 98) hx hb dX8_splay_5 (by decide) (fun c1 => ?_) (fun c1 => ?_)
      · rw [if_pos c1] at hR
        exact q_vret (st := []) hx hb hret hlk hN hI (by subst hR; exact ⟨rfl, ⟨hL0, hS⟩, rfl⟩) dX8_splay_98
      · rw [if_neg c1] at hR
        refine lv_aload_n hx hb dX8_splay_8 rfl (lv_at hl 0 rfl) ?_
        refine lv_iload_n hx hb dX8_splay_9 rfl (lv_at hl 1 rfl) ?_
        refine q_goR (q_runV (As := [.int p1]) (rest := []) hx hb hml hown hg (c_X8_upperOf l D cs hL0 p1) v_X8_upperOf wl_X8_48 rfl rfl ⟨Nat.le_of_ble_eq_true rfl, Nat.le_of_ble_eq_true rfl⟩ hI hK 9 hL0.1 rfl hl.1 rfl rfl (Nat.le_of_ble_eq_true rfl) dX8_splay_10 ⟨Nat.le_of_ble_eq_true rfl, Nat.le_of_ble_eq_true rfl⟩) hI (fun H locs hI => ?_)
        refine lv_if_lt (tgt := 98) hx hb dX8_splay_13 (by decide) (fun c2 => ?_) (fun c2 => ?_)
        · rw [if_pos c2] at hR
          exact q_vret (st := []) hx hb hret hlk hN hI (by subst hR; exact ⟨rfl, ⟨hL0, hS⟩, rfl⟩) dX8_splay_98
        · rw [if_neg c2] at hR
          refine lv_aload_n hx hb dX8_splay_16 rfl (lv_at hl 0 rfl) ?_
          refine lv_iload_n hx hb dX8_splay_17 rfl (lv_at hl 1 rfl) ?_
          refine q_goR (q_runV (As := [.int p1]) (rest := []) hx hb hml hown hg (c_X8_upperOf l D cs hL0 p1) v_X8_upperOf wl_X8_48 rfl rfl ⟨Nat.le_of_ble_eq_true rfl, Nat.le_of_ble_eq_true rfl⟩ hI hK 9 hL0.1 rfl hl.1 rfl rfl (Nat.le_of_ble_eq_true rfl) dX8_splay_18 ⟨Nat.le_of_ble_eq_true rfl, Nat.le_of_ble_eq_true rfl⟩) hI (fun H locs hI => ?_)
          refine lv_istore_n (lv' := [(3, .int (s_X8_upperOf z0 p1)), (0, .ref a), (1, .int p1), (2, .int x2h2)]) hx hb dX8_splay_21 rfl hl (by decide) rfl (fun ls hl => ?_)
          refine lv_aload_n hx hb dX8_splay_22 rfl (lv_at hl 1 rfl) ?_
          refine lv_iload_n hx hb dX8_splay_23 rfl (lv_at hl 0 rfl) ?_
          refine q_goR (q_runV (As := [.int (s_X8_upperOf z0 p1)]) (rest := []) hx hb hml hown hg (c_X8_upperOf l D cs hL0 (s_X8_upperOf z0 p1)) v_X8_upperOf wl_X8_48 rfl rfl ⟨Nat.le_of_ble_eq_true rfl, Nat.le_of_ble_eq_true rfl⟩ hI hK 9 hL0.1 rfl hl.1 rfl rfl (Nat.le_of_ble_eq_true rfl) dX8_splay_24 ⟨Nat.le_of_ble_eq_true rfl, Nat.le_of_ble_eq_true rfl⟩) hI (fun H locs hI => ?_)
          refine lv_istore (lv' := [(4, .int (s_X8_upperOf z0 (s_X8_upperOf z0 p1))), (3, .int (s_X8_upperOf z0 p1)), (0, .ref a), (1, .int p1), (2, .int x2h2)]) hx hb dX8_splay_27 hl (by decide) rfl (fun ls hl => ?_)
          refine lv_iload hx hb dX8_splay_29 (lv_at hl 0 rfl) ?_
          refine lv_if_lt (tgt := 87) hx hb dX8_splay_31 (by decide) (fun c3 => ?_) (fun c3 => ?_)
          · rw [if_pos c3] at hR
            refine lv_aload_n hx hb dX8_splay_87 rfl (lv_at hl 2 rfl) ?_
            refine lv_iload_n hx hb dX8_splay_88 rfl (lv_at hl 3 rfl) ?_
            refine q_goN (q_runV (As := [.int p1]) (rest := []) hx hb hml hown hg (c_X8_turn l D cs hL0 p1) v_X8_turn wl_X8_81 rfl rfl ⟨Nat.le_of_ble_eq_true rfl, Nat.le_of_ble_eq_true rfl⟩ hI hK 9 hL0.1 rfl hl.1 rfl rfl (Nat.le_of_ble_eq_true rfl) dX8_splay_89 ⟨Nat.le_of_ble_eq_true rfl, Nat.le_of_ble_eq_true rfl⟩) hI (fun M H locs hp hI => ?_)
            obtain ⟨hn0, hF⟩ := hp
            generalize heg4 : s_X8_turn z0 p1 = g4 at hn0 hR
            have hn := hn0
            have hL0 := hn
            have hS := hS.tr hF (fun q hq => by omega)
            refine lv_iinc (v := x2h2 + 1) (lv' := [(2, .int (x2h2 + 1)), (4, .int (s_X8_upperOf z0 (s_X8_upperOf z0 p1))), (3, .int (s_X8_upperOf z0 p1)), (0, .ref a), (1, .int p1)]) hx hb dX8_splay_92 hl (k := 4) rfl rfl (by decide) rfl (fun ls hl => ?_)
            refine lv_goto (tgt := 2) hx hb dX8_splay_95 (by decide) ?_
            exact ih2 (x2h2 + 1) g4 (q_mu c1 hm2) hR _ _ _ _ hL0 hS hI (lv_sub hl [3, 4, 0] rfl)
          · rw [if_neg c3] at hR
            refine lv_aload_n hx hb dX8_splay_34 rfl (lv_at hl 2 rfl) ?_
            refine lv_iload_n hx hb dX8_splay_35 rfl (lv_at hl 1 rfl) ?_
            refine q_goR (q_runV (As := [.int (s_X8_upperOf z0 p1)]) (rest := []) hx hb hml hown hg (c_X8_leftOf l D cs hL0 (s_X8_upperOf z0 p1)) v_X8_leftOf wl_X8_71 rfl rfl ⟨Nat.le_of_ble_eq_true rfl, Nat.le_of_ble_eq_true rfl⟩ hI hK 9 hL0.1 rfl hl.1 rfl rfl (Nat.le_of_ble_eq_true rfl) dX8_splay_36 ⟨Nat.le_of_ble_eq_true rfl, Nat.le_of_ble_eq_true rfl⟩) hI (fun H locs hI => ?_)
            refine lv_iload_n hx hb dX8_splay_39 rfl (lv_at hl 3 rfl) ?_
            refine lv_icmp_ne (tgt := 47) hx hb dX8_splay_40 (by decide) (fun c5 => ?_) (fun c5 => ?_)
            · rw [if_neg c5] at hR
              refine lv_iconst (v := 0) hx hb dX8_splay_47 (by decide) ?_
              refine lv_aload_n hx hb dX8_splay_48 rfl (lv_at hl 2 rfl) ?_
              refine lv_iload hx hb dX8_splay_49 (lv_at hl 0 rfl) ?_
              refine q_goR (q_runV (As := [.int (s_X8_upperOf z0 (s_X8_upperOf z0 p1))]) (rest := [.int 0]) hx hb hml hown hg (c_X8_leftOf l D cs hL0 (s_X8_upperOf z0 (s_X8_upperOf z0 p1))) v_X8_leftOf wl_X8_71 rfl rfl ⟨Nat.le_of_ble_eq_true rfl, Nat.le_of_ble_eq_true rfl⟩ hI hK 9 hL0.1 rfl hl.1 rfl rfl (Nat.le_of_ble_eq_true rfl) dX8_splay_51 ⟨Nat.le_of_ble_eq_true rfl, Nat.le_of_ble_eq_true rfl⟩) hI (fun H locs hI => ?_)
              refine lv_iload_n hx hb dX8_splay_54 rfl (lv_at hl 1 rfl) ?_
              refine lv_icmp_ne (tgt := 62) hx hb dX8_splay_55 (by decide) (fun c6 => ?_) (fun c6 => ?_)
              · rw [if_neg c6] at hR
                refine lv_iconst (v := 0) hx hb dX8_splay_62 (by decide) ?_
                refine lv_icmp_ne (tgt := 70) hx hb dX8_splay_63 (by decide) (fun c7 => absurd c7 (by decide)) (fun c7 => ?_)
                refine lv_iconst (v := 1) hx hb dX8_splay_66 (by decide) ?_
                refine lv_goto (tgt := 71) hx hb dX8_splay_67 (by decide) ?_
                refine lv_istore (lv' := [(5, .int 1), (4, .int (s_X8_upperOf z0 (s_X8_upperOf z0 p1))), (3, .int (s_X8_upperOf z0 p1)), (0, .ref a), (1, .int p1), (2, .int x2h2)]) hx hb dX8_splay_71 hl (by decide) rfl (fun ls hl => ?_)
                refine lv_aload_n hx hb dX8_splay_73 rfl (lv_at hl 3 rfl) ?_
                refine lv_iload hx hb dX8_splay_74 (lv_at hl 0 rfl) ?_
                refine lv_if_eq (tgt := 83) hx hb dX8_splay_76 (by decide) (fun c8 => absurd c8 (by decide)) (fun c8 => ?_)
                refine lv_iload_n hx hb dX8_splay_79 rfl (lv_at hl 2 rfl) ?_
                refine lv_goto (tgt := 84) hx hb dX8_splay_80 (by decide) ?_
                refine q_goN (q_runV (As := [.int (s_X8_upperOf z0 p1)]) (rest := []) hx hb hml hown hg (c_X8_turn l D cs hL0 (s_X8_upperOf z0 p1)) v_X8_turn wl_X8_81 rfl rfl ⟨Nat.le_of_ble_eq_true rfl, Nat.le_of_ble_eq_true rfl⟩ hI hK 9 hL0.1 rfl hl.1 rfl rfl (Nat.le_of_ble_eq_true rfl) dX8_splay_84 ⟨Nat.le_of_ble_eq_true rfl, Nat.le_of_ble_eq_true rfl⟩) hI (fun M H locs hp hI => ?_)
                obtain ⟨hn0, hF⟩ := hp
                generalize heg9 : s_X8_turn z0 (s_X8_upperOf z0 p1) = g9 at hn0 hR
                have hn := hn0
                have hL0 := hn
                have hS := hS.tr hF (fun q hq => by omega)
                refine lv_aload_n hx hb dX8_splay_87 rfl (lv_at hl 3 rfl) ?_
                refine lv_iload_n hx hb dX8_splay_88 rfl (lv_at hl 4 rfl) ?_
                refine q_goN (q_runV (As := [.int p1]) (rest := []) hx hb hml hown hg (c_X8_turn l D cs hL0 p1) v_X8_turn wl_X8_81 rfl rfl ⟨Nat.le_of_ble_eq_true rfl, Nat.le_of_ble_eq_true rfl⟩ hI hK 9 hL0.1 rfl hl.1 rfl rfl (Nat.le_of_ble_eq_true rfl) dX8_splay_89 ⟨Nat.le_of_ble_eq_true rfl, Nat.le_of_ble_eq_true rfl⟩) hI (fun M H locs hp hI => ?_)
                obtain ⟨hn0, hF⟩ := hp
                generalize heg10 : s_X8_turn g9 p1 = g10 at hn0 hR
                have hn := hn0
                have hL0 := hn
                have hS := hS.tr hF (fun q hq => by omega)
                refine lv_iinc (v := x2h2 + 1) (lv' := [(2, .int (x2h2 + 1)), (5, .int 1), (4, .int (s_X8_upperOf z0 (s_X8_upperOf z0 p1))), (3, .int (s_X8_upperOf z0 p1)), (0, .ref a), (1, .int p1)]) hx hb dX8_splay_92 hl (k := 5) rfl rfl (by decide) rfl (fun ls hl => ?_)
                refine lv_goto (tgt := 2) hx hb dX8_splay_95 (by decide) ?_
                exact ih2 (x2h2 + 1) g10 (q_mu c1 hm2) hR _ _ _ _ hL0 hS hI (lv_sub hl [4, 5, 0] rfl)
              · rw [if_pos c6] at hR
                refine lv_iconst (v := 1) hx hb dX8_splay_58 (by decide) ?_
                refine lv_goto (tgt := 63) hx hb dX8_splay_59 (by decide) ?_
                refine lv_icmp_ne (tgt := 70) hx hb dX8_splay_63 (by decide) (fun c11 => ?_) (fun c11 => absurd c11 (by decide))
                refine lv_iconst (v := 0) hx hb dX8_splay_70 (by decide) ?_
                refine lv_istore (lv' := [(5, .int 0), (4, .int (s_X8_upperOf z0 (s_X8_upperOf z0 p1))), (3, .int (s_X8_upperOf z0 p1)), (0, .ref a), (1, .int p1), (2, .int x2h2)]) hx hb dX8_splay_71 hl (by decide) rfl (fun ls hl => ?_)
                refine lv_aload_n hx hb dX8_splay_73 rfl (lv_at hl 3 rfl) ?_
                refine lv_iload hx hb dX8_splay_74 (lv_at hl 0 rfl) ?_
                refine lv_if_eq (tgt := 83) hx hb dX8_splay_76 (by decide) (fun c12 => ?_) (fun c12 => absurd c12 (by decide))
                refine lv_iload_n hx hb dX8_splay_83 rfl (lv_at hl 4 rfl) ?_
                refine q_goN (q_runV (As := [.int p1]) (rest := []) hx hb hml hown hg (c_X8_turn l D cs hL0 p1) v_X8_turn wl_X8_81 rfl rfl ⟨Nat.le_of_ble_eq_true rfl, Nat.le_of_ble_eq_true rfl⟩ hI hK 9 hL0.1 rfl hl.1 rfl rfl (Nat.le_of_ble_eq_true rfl) dX8_splay_84 ⟨Nat.le_of_ble_eq_true rfl, Nat.le_of_ble_eq_true rfl⟩) hI (fun M H locs hp hI => ?_)
                obtain ⟨hn0, hF⟩ := hp
                generalize heg13 : s_X8_turn z0 p1 = g13 at hn0 hR
                have hn := hn0
                have hL0 := hn
                have hS := hS.tr hF (fun q hq => by omega)
                refine lv_aload_n hx hb dX8_splay_87 rfl (lv_at hl 3 rfl) ?_
                refine lv_iload_n hx hb dX8_splay_88 rfl (lv_at hl 4 rfl) ?_
                refine q_goN (q_runV (As := [.int p1]) (rest := []) hx hb hml hown hg (c_X8_turn l D cs hL0 p1) v_X8_turn wl_X8_81 rfl rfl ⟨Nat.le_of_ble_eq_true rfl, Nat.le_of_ble_eq_true rfl⟩ hI hK 9 hL0.1 rfl hl.1 rfl rfl (Nat.le_of_ble_eq_true rfl) dX8_splay_89 ⟨Nat.le_of_ble_eq_true rfl, Nat.le_of_ble_eq_true rfl⟩) hI (fun M H locs hp hI => ?_)
                obtain ⟨hn0, hF⟩ := hp
                generalize heg14 : s_X8_turn g13 p1 = g14 at hn0 hR
                have hn := hn0
                have hL0 := hn
                have hS := hS.tr hF (fun q hq => by omega)
                refine lv_iinc (v := x2h2 + 1) (lv' := [(2, .int (x2h2 + 1)), (5, .int 0), (4, .int (s_X8_upperOf z0 (s_X8_upperOf z0 p1))), (3, .int (s_X8_upperOf z0 p1)), (0, .ref a), (1, .int p1)]) hx hb dX8_splay_92 hl (k := 5) rfl rfl (by decide) rfl (fun ls hl => ?_)
                refine lv_goto (tgt := 2) hx hb dX8_splay_95 (by decide) ?_
                exact ih2 (x2h2 + 1) g14 (q_mu c1 hm2) hR _ _ _ _ hL0 hS hI (lv_sub hl [4, 5, 0] rfl)
            · rw [if_pos c5] at hR
              refine lv_iconst (v := 1) hx hb dX8_splay_43 (by decide) ?_
              refine lv_goto (tgt := 48) hx hb dX8_splay_44 (by decide) ?_
              refine lv_aload_n hx hb dX8_splay_48 rfl (lv_at hl 2 rfl) ?_
              refine lv_iload hx hb dX8_splay_49 (lv_at hl 0 rfl) ?_
              refine q_goR (q_runV (As := [.int (s_X8_upperOf z0 (s_X8_upperOf z0 p1))]) (rest := [.int 1]) hx hb hml hown hg (c_X8_leftOf l D cs hL0 (s_X8_upperOf z0 (s_X8_upperOf z0 p1))) v_X8_leftOf wl_X8_71 rfl rfl ⟨Nat.le_of_ble_eq_true rfl, Nat.le_of_ble_eq_true rfl⟩ hI hK 9 hL0.1 rfl hl.1 rfl rfl (Nat.le_of_ble_eq_true rfl) dX8_splay_51 ⟨Nat.le_of_ble_eq_true rfl, Nat.le_of_ble_eq_true rfl⟩) hI (fun H locs hI => ?_)
              refine lv_iload_n hx hb dX8_splay_54 rfl (lv_at hl 1 rfl) ?_
              refine lv_icmp_ne (tgt := 62) hx hb dX8_splay_55 (by decide) (fun c15 => ?_) (fun c15 => ?_)
              · rw [if_neg c15] at hR
                refine lv_iconst (v := 0) hx hb dX8_splay_62 (by decide) ?_
                refine lv_icmp_ne (tgt := 70) hx hb dX8_splay_63 (by decide) (fun c16 => ?_) (fun c16 => absurd c16 (by decide))
                refine lv_iconst (v := 0) hx hb dX8_splay_70 (by decide) ?_
                refine lv_istore (lv' := [(5, .int 0), (4, .int (s_X8_upperOf z0 (s_X8_upperOf z0 p1))), (3, .int (s_X8_upperOf z0 p1)), (0, .ref a), (1, .int p1), (2, .int x2h2)]) hx hb dX8_splay_71 hl (by decide) rfl (fun ls hl => ?_)
                refine lv_aload_n hx hb dX8_splay_73 rfl (lv_at hl 3 rfl) ?_
                refine lv_iload hx hb dX8_splay_74 (lv_at hl 0 rfl) ?_
                refine lv_if_eq (tgt := 83) hx hb dX8_splay_76 (by decide) (fun c17 => ?_) (fun c17 => absurd c17 (by decide))
                refine lv_iload_n hx hb dX8_splay_83 rfl (lv_at hl 4 rfl) ?_
                refine q_goN (q_runV (As := [.int p1]) (rest := []) hx hb hml hown hg (c_X8_turn l D cs hL0 p1) v_X8_turn wl_X8_81 rfl rfl ⟨Nat.le_of_ble_eq_true rfl, Nat.le_of_ble_eq_true rfl⟩ hI hK 9 hL0.1 rfl hl.1 rfl rfl (Nat.le_of_ble_eq_true rfl) dX8_splay_84 ⟨Nat.le_of_ble_eq_true rfl, Nat.le_of_ble_eq_true rfl⟩) hI (fun M H locs hp hI => ?_)
                obtain ⟨hn0, hF⟩ := hp
                generalize heg18 : s_X8_turn z0 p1 = g18 at hn0 hR
                have hn := hn0
                have hL0 := hn
                have hS := hS.tr hF (fun q hq => by omega)
                refine lv_aload_n hx hb dX8_splay_87 rfl (lv_at hl 3 rfl) ?_
                refine lv_iload_n hx hb dX8_splay_88 rfl (lv_at hl 4 rfl) ?_
                refine q_goN (q_runV (As := [.int p1]) (rest := []) hx hb hml hown hg (c_X8_turn l D cs hL0 p1) v_X8_turn wl_X8_81 rfl rfl ⟨Nat.le_of_ble_eq_true rfl, Nat.le_of_ble_eq_true rfl⟩ hI hK 9 hL0.1 rfl hl.1 rfl rfl (Nat.le_of_ble_eq_true rfl) dX8_splay_89 ⟨Nat.le_of_ble_eq_true rfl, Nat.le_of_ble_eq_true rfl⟩) hI (fun M H locs hp hI => ?_)
                obtain ⟨hn0, hF⟩ := hp
                generalize heg19 : s_X8_turn g18 p1 = g19 at hn0 hR
                have hn := hn0
                have hL0 := hn
                have hS := hS.tr hF (fun q hq => by omega)
                refine lv_iinc (v := x2h2 + 1) (lv' := [(2, .int (x2h2 + 1)), (5, .int 0), (4, .int (s_X8_upperOf z0 (s_X8_upperOf z0 p1))), (3, .int (s_X8_upperOf z0 p1)), (0, .ref a), (1, .int p1)]) hx hb dX8_splay_92 hl (k := 5) rfl rfl (by decide) rfl (fun ls hl => ?_)
                refine lv_goto (tgt := 2) hx hb dX8_splay_95 (by decide) ?_
                exact ih2 (x2h2 + 1) g19 (q_mu c1 hm2) hR _ _ _ _ hL0 hS hI (lv_sub hl [4, 5, 0] rfl)
              · rw [if_pos c15] at hR
                refine lv_iconst (v := 1) hx hb dX8_splay_58 (by decide) ?_
                refine lv_goto (tgt := 63) hx hb dX8_splay_59 (by decide) ?_
                refine lv_icmp_ne (tgt := 70) hx hb dX8_splay_63 (by decide) (fun c20 => absurd c20 (by decide)) (fun c20 => ?_)
                refine lv_iconst (v := 1) hx hb dX8_splay_66 (by decide) ?_
                refine lv_goto (tgt := 71) hx hb dX8_splay_67 (by decide) ?_
                refine lv_istore (lv' := [(5, .int 1), (4, .int (s_X8_upperOf z0 (s_X8_upperOf z0 p1))), (3, .int (s_X8_upperOf z0 p1)), (0, .ref a), (1, .int p1), (2, .int x2h2)]) hx hb dX8_splay_71 hl (by decide) rfl (fun ls hl => ?_)
                refine lv_aload_n hx hb dX8_splay_73 rfl (lv_at hl 3 rfl) ?_
                refine lv_iload hx hb dX8_splay_74 (lv_at hl 0 rfl) ?_
                refine lv_if_eq (tgt := 83) hx hb dX8_splay_76 (by decide) (fun c21 => absurd c21 (by decide)) (fun c21 => ?_)
                refine lv_iload_n hx hb dX8_splay_79 rfl (lv_at hl 2 rfl) ?_
                refine lv_goto (tgt := 84) hx hb dX8_splay_80 (by decide) ?_
                refine q_goN (q_runV (As := [.int (s_X8_upperOf z0 p1)]) (rest := []) hx hb hml hown hg (c_X8_turn l D cs hL0 (s_X8_upperOf z0 p1)) v_X8_turn wl_X8_81 rfl rfl ⟨Nat.le_of_ble_eq_true rfl, Nat.le_of_ble_eq_true rfl⟩ hI hK 9 hL0.1 rfl hl.1 rfl rfl (Nat.le_of_ble_eq_true rfl) dX8_splay_84 ⟨Nat.le_of_ble_eq_true rfl, Nat.le_of_ble_eq_true rfl⟩) hI (fun M H locs hp hI => ?_)
                obtain ⟨hn0, hF⟩ := hp
                generalize heg22 : s_X8_turn z0 (s_X8_upperOf z0 p1) = g22 at hn0 hR
                have hn := hn0
                have hL0 := hn
                have hS := hS.tr hF (fun q hq => by omega)
                refine lv_aload_n hx hb dX8_splay_87 rfl (lv_at hl 3 rfl) ?_
                refine lv_iload_n hx hb dX8_splay_88 rfl (lv_at hl 4 rfl) ?_
                refine q_goN (q_runV (As := [.int p1]) (rest := []) hx hb hml hown hg (c_X8_turn l D cs hL0 p1) v_X8_turn wl_X8_81 rfl rfl ⟨Nat.le_of_ble_eq_true rfl, Nat.le_of_ble_eq_true rfl⟩ hI hK 9 hL0.1 rfl hl.1 rfl rfl (Nat.le_of_ble_eq_true rfl) dX8_splay_89 ⟨Nat.le_of_ble_eq_true rfl, Nat.le_of_ble_eq_true rfl⟩) hI (fun M H locs hp hI => ?_)
                obtain ⟨hn0, hF⟩ := hp
                generalize heg23 : s_X8_turn g22 p1 = g23 at hn0 hR
                have hn := hn0
                have hL0 := hn
                have hS := hS.tr hF (fun q hq => by omega)
                refine lv_iinc (v := x2h2 + 1) (lv' := [(2, .int (x2h2 + 1)), (5, .int 1), (4, .int (s_X8_upperOf z0 (s_X8_upperOf z0 p1))), (3, .int (s_X8_upperOf z0 p1)), (0, .ref a), (1, .int p1)]) hx hb dX8_splay_92 hl (k := 5) rfl rfl (by decide) rfl (fun ls hl => ?_)
                refine lv_goto (tgt := 2) hx hb dX8_splay_95 (by decide) ?_
                exact ih2 (x2h2 + 1) g23 (q_mu c1 hm2) hR _ _ _ _ hL0 hS hI (lv_sub hl [4, 5, 0] rfl)
  exact loop2 _ 0 v (q_fuel _) hR _ _ _ _ hL0 hS hI (lv_sub hl [1, 2, 0] rfl)
def s_X8_takeLeftOff (v : qTV) (p1 : Int32) : qTV := ((rowPut v.1 p1 (-1)), v.2.1, (rowPut v.2.2.1 (s_X8_leftOf v p1) (-1)), v.2.2.2)
set_option maxHeartbeats 4000000 in
set_option maxRecDepth 20000 in
theorem c_X8_takeLeftOff (l : Launch) (D : va_G) (cs : qC) {M0 : qM} {N a : Nat} {v : qTV} (hL0 : qLT cs M0 a v) (p1 : Int32) :
    qMet l D cs yX8_takeLeftOff (qws yX8_takeLeftOff cX8_takeLeftOff 2 none) ({ frames := 2, cells := 0, slots := 0, locals := 42 } : Room) M0 N [.ref a, .int p1] (qMod N none (fun M' => qLT cs M' a (s_X8_takeLeftOff v p1) ∧ qFr (qIn a 4) M0 M')) 0 0 := by
  obtain ⟨R, hR⟩ : ∃ R, s_X8_takeLeftOff v p1 = R := ⟨_, rfl⟩
  rw [hR]
  rw [s_X8_takeLeftOff] at hR
  refine q_head (by decide +kernel) ?_ (Nat.le_of_ble_eq_true rfl)
  intro p e s m below meth c ls hx hb hret hlk hml hown hnm hg hK hN hI hl
  have hl : lv_has ls 2 [(0, .ref a), (1, .int p1)] := hl
  have hS : qFr (qIn a 4) M0 M0 := qFr.rf
  refine lv_aload_n hx hb dX8_takeLeftOff_0 rfl (lv_at hl 0 rfl) ?_
  refine q_get hx hb hg in_X8 hown hK hI hL0.1 rfl 2 (by decide) (hg _ wf_X8_18) (fun _ h9 => h9) rfl dX8_takeLeftOff_1 ?_
  refine lv_aload_n hx hb dX8_takeLeftOff_4 rfl (lv_at hl 0 rfl) ?_
  refine lv_iload_n hx hb dX8_takeLeftOff_5 rfl (lv_at hl 1 rfl) ?_
  refine q_goR (q_runV (As := [.int p1]) (rest := [.ref (a + 3)]) hx hb hml hown hg (c_X8_leftOf l D cs hL0 p1) v_X8_leftOf wl_X8_71 rfl rfl ⟨Nat.le_of_ble_eq_true rfl, Nat.le_of_ble_eq_true rfl⟩ hI hK 9 hL0.1 rfl hl.1 rfl rfl (Nat.le_of_ble_eq_true rfl) dX8_takeLeftOff_6 ⟨Nat.le_of_ble_eq_true rfl, Nat.le_of_ble_eq_true rfl⟩) hI (fun H locs hI => ?_)
  refine lv_iconst (v := (-1)) hx hb dX8_takeLeftOff_9 (by decide) ?_
  refine q_goN (q_runSN (As := [.ref (a + 3), .int (s_X8_leftOf v p1), .int (-1)]) (rest := []) hx hb hml hown hg (c_X10_put l D cs hL0.2.2.2 (s_X8_leftOf v p1) (-1)) v_X10_put (hK.2 _ (List.mem_of_getElem? (i := 36) rfl)) rfl rfl ⟨Nat.le_of_ble_eq_true rfl, Nat.le_of_ble_eq_true rfl⟩ hI hK hl.1 rfl rfl (Nat.le_of_ble_eq_true rfl) dX8_takeLeftOff_10 ⟨Nat.le_of_ble_eq_true rfl, Nat.le_of_ble_eq_true rfl⟩) hI (fun M H locs hp hI => ?_)
  obtain ⟨hn0, hF⟩ := hp
  generalize heg1 : rowPut v.2.2.1 (s_X8_leftOf v p1) (-1) = g1 at hn0 hR
  have hn := hn0
  have hn : qLT cs M a (v.1, v.2.1, g1, v.2.2.2) := qLT.s2 (v := v) hL0 hn (qFr.rf.tr hF (fun q hq => by omega))
  have hL0 := hn
  have hS := hS.tr hF (fun q hq => by omega)
  refine lv_aload_n hx hb dX8_takeLeftOff_13 rfl (lv_at hl 0 rfl) ?_
  refine q_get hx hb hg in_X8 hown hK hI hL0.1 rfl 0 (by decide) (hg _ wf_X8_9) (fun _ h9 => h9) rfl dX8_takeLeftOff_14 ?_
  refine lv_iload_n hx hb dX8_takeLeftOff_17 rfl (lv_at hl 1 rfl) ?_
  refine lv_iconst (v := (-1)) hx hb dX8_takeLeftOff_18 (by decide) ?_
  refine q_goN (q_runSN (As := [.ref (a + 1), .int p1, .int (-1)]) (rest := []) hx hb hml hown hg (c_X10_put l D cs hL0.2.1 p1 (-1)) v_X10_put (hK.2 _ (List.mem_of_getElem? (i := 36) rfl)) rfl rfl ⟨Nat.le_of_ble_eq_true rfl, Nat.le_of_ble_eq_true rfl⟩ hI hK hl.1 rfl rfl (Nat.le_of_ble_eq_true rfl) dX8_takeLeftOff_19 ⟨Nat.le_of_ble_eq_true rfl, Nat.le_of_ble_eq_true rfl⟩) hI (fun M H locs hp hI => ?_)
  obtain ⟨hn0, hF⟩ := hp
  generalize heg2 : rowPut v.1 p1 (-1) = g2 at hn0 hR
  have hn := hn0
  have hn : qLT cs M a (g2, v.2.1, g1, v.2.2.2) := qLT.s0 (v := (v.1, v.2.1, g1, v.2.2.2)) hL0 hn (qFr.rf.tr hF (fun q hq => by omega))
  have hL0 := hn
  have hS := hS.tr hF (fun q hq => by omega)
  exact q_vret (st := []) hx hb hret hlk hN hI (by subst hR; exact ⟨rfl, ⟨hL0, hS⟩, rfl⟩) dX8_takeLeftOff_22
def s_X8_takeRightOff (v : qTV) (p1 : Int32) : qTV := (v.1, (rowPut v.2.1 p1 (-1)), (rowPut v.2.2.1 (s_X8_rightOf v p1) (-1)), v.2.2.2)
set_option maxHeartbeats 4000000 in
set_option maxRecDepth 20000 in
theorem c_X8_takeRightOff (l : Launch) (D : va_G) (cs : qC) {M0 : qM} {N a : Nat} {v : qTV} (hL0 : qLT cs M0 a v) (p1 : Int32) :
    qMet l D cs yX8_takeRightOff (qws yX8_takeRightOff cX8_takeRightOff 2 none) ({ frames := 2, cells := 0, slots := 0, locals := 42 } : Room) M0 N [.ref a, .int p1] (qMod N none (fun M' => qLT cs M' a (s_X8_takeRightOff v p1) ∧ qFr (qIn a 4) M0 M')) 0 0 := by
  obtain ⟨R, hR⟩ : ∃ R, s_X8_takeRightOff v p1 = R := ⟨_, rfl⟩
  rw [hR]
  rw [s_X8_takeRightOff] at hR
  refine q_head (by decide +kernel) ?_ (Nat.le_of_ble_eq_true rfl)
  intro p e s m below meth c ls hx hb hret hlk hml hown hnm hg hK hN hI hl
  have hl : lv_has ls 2 [(0, .ref a), (1, .int p1)] := hl
  have hS : qFr (qIn a 4) M0 M0 := qFr.rf
  refine lv_aload_n hx hb dX8_takeRightOff_0 rfl (lv_at hl 0 rfl) ?_
  refine q_get hx hb hg in_X8 hown hK hI hL0.1 rfl 2 (by decide) (hg _ wf_X8_18) (fun _ h9 => h9) rfl dX8_takeRightOff_1 ?_
  refine lv_aload_n hx hb dX8_takeRightOff_4 rfl (lv_at hl 0 rfl) ?_
  refine lv_iload_n hx hb dX8_takeRightOff_5 rfl (lv_at hl 1 rfl) ?_
  refine q_goR (q_runV (As := [.int p1]) (rest := [.ref (a + 3)]) hx hb hml hown hg (c_X8_rightOf l D cs hL0 p1) v_X8_rightOf wl_X8_85 rfl rfl ⟨Nat.le_of_ble_eq_true rfl, Nat.le_of_ble_eq_true rfl⟩ hI hK 9 hL0.1 rfl hl.1 rfl rfl (Nat.le_of_ble_eq_true rfl) dX8_takeRightOff_6 ⟨Nat.le_of_ble_eq_true rfl, Nat.le_of_ble_eq_true rfl⟩) hI (fun H locs hI => ?_)
  refine lv_iconst (v := (-1)) hx hb dX8_takeRightOff_9 (by decide) ?_
  refine q_goN (q_runSN (As := [.ref (a + 3), .int (s_X8_rightOf v p1), .int (-1)]) (rest := []) hx hb hml hown hg (c_X10_put l D cs hL0.2.2.2 (s_X8_rightOf v p1) (-1)) v_X10_put (hK.2 _ (List.mem_of_getElem? (i := 36) rfl)) rfl rfl ⟨Nat.le_of_ble_eq_true rfl, Nat.le_of_ble_eq_true rfl⟩ hI hK hl.1 rfl rfl (Nat.le_of_ble_eq_true rfl) dX8_takeRightOff_10 ⟨Nat.le_of_ble_eq_true rfl, Nat.le_of_ble_eq_true rfl⟩) hI (fun M H locs hp hI => ?_)
  obtain ⟨hn0, hF⟩ := hp
  generalize heg1 : rowPut v.2.2.1 (s_X8_rightOf v p1) (-1) = g1 at hn0 hR
  have hn := hn0
  have hn : qLT cs M a (v.1, v.2.1, g1, v.2.2.2) := qLT.s2 (v := v) hL0 hn (qFr.rf.tr hF (fun q hq => by omega))
  have hL0 := hn
  have hS := hS.tr hF (fun q hq => by omega)
  refine lv_aload_n hx hb dX8_takeRightOff_13 rfl (lv_at hl 0 rfl) ?_
  refine q_get hx hb hg in_X8 hown hK hI hL0.1 rfl 1 (by decide) (hg _ wf_X8_15) (fun _ h9 => h9) rfl dX8_takeRightOff_14 ?_
  refine lv_iload_n hx hb dX8_takeRightOff_17 rfl (lv_at hl 1 rfl) ?_
  refine lv_iconst (v := (-1)) hx hb dX8_takeRightOff_18 (by decide) ?_
  refine q_goN (q_runSN (As := [.ref (a + 2), .int p1, .int (-1)]) (rest := []) hx hb hml hown hg (c_X10_put l D cs hL0.2.2.1 p1 (-1)) v_X10_put (hK.2 _ (List.mem_of_getElem? (i := 36) rfl)) rfl rfl ⟨Nat.le_of_ble_eq_true rfl, Nat.le_of_ble_eq_true rfl⟩ hI hK hl.1 rfl rfl (Nat.le_of_ble_eq_true rfl) dX8_takeRightOff_19 ⟨Nat.le_of_ble_eq_true rfl, Nat.le_of_ble_eq_true rfl⟩) hI (fun M H locs hp hI => ?_)
  obtain ⟨hn0, hF⟩ := hp
  generalize heg2 : rowPut v.2.1 p1 (-1) = g2 at hn0 hR
  have hn := hn0
  have hn : qLT cs M a (v.1, g2, g1, v.2.2.2) := qLT.s1 (v := (v.1, v.2.1, g1, v.2.2.2)) hL0 hn (qFr.rf.tr hF (fun q hq => by omega))
  have hL0 := hn
  have hS := hS.tr hF (fun q hq => by omega)
  exact q_vret (st := []) hx hb hret hlk hN hI (by subst hR; exact ⟨rfl, ⟨hL0, hS⟩, rfl⟩) dX8_takeRightOff_22
def s_X8_joinRight (v : qTV) (p1 : Int32) (p2 : Int32) : qTV := (s_X8_link_r v p1 p2)
set_option maxHeartbeats 4000000 in
set_option maxRecDepth 20000 in
theorem c_X8_joinRight (l : Launch) (D : va_G) (cs : qC) {M0 : qM} {N a : Nat} {v : qTV} (hL0 : qLT cs M0 a v) (p1 : Int32) (p2 : Int32) :
    qMet l D cs yX8_joinRight (qws yX8_joinRight cX8_joinRight 3 none) ({ frames := 2, cells := 0, slots := 0, locals := 45 } : Room) M0 N [.ref a, .int p1, .int p2] (qMod N none (fun M' => qLT cs M' a (s_X8_joinRight v p1 p2) ∧ qFr (qIn a 4) M0 M')) 0 0 := by
  obtain ⟨R, hR⟩ : ∃ R, s_X8_joinRight v p1 p2 = R := ⟨_, rfl⟩
  rw [hR]
  rw [s_X8_joinRight] at hR
  refine q_head (by decide +kernel) ?_ (Nat.le_of_ble_eq_true rfl)
  intro p e s m below meth c ls hx hb hret hlk hml hown hnm hg hK hN hI hl
  have hl : lv_has ls 3 [(0, .ref a), (1, .int p1), (2, .int p2)] := hl
  have hS : qFr (qIn a 4) M0 M0 := qFr.rf
  refine lv_aload_n hx hb dX8_joinRight_0 rfl (lv_at hl 0 rfl) ?_
  refine lv_aload_n hx hb dX8_joinRight_1 rfl (lv_at hl 0 rfl) ?_
  refine q_get hx hb hg in_X8 hown hK hI hL0.1 rfl 1 (by decide) (hg _ wf_X8_15) (fun _ h9 => h9) rfl dX8_joinRight_2 ?_
  refine lv_iload_n hx hb dX8_joinRight_5 rfl (lv_at hl 1 rfl) ?_
  refine lv_iload_n hx hb dX8_joinRight_6 rfl (lv_at hl 2 rfl) ?_
  refine q_goN (q_runV (As := [.ref (a + 2), .int p1, .int p2]) (rest := []) hx hb hml hown hg (c_X8_link_r l D cs hL0 p1 p2) v_X8_link wl_X8_74 rfl rfl ⟨Nat.le_of_ble_eq_true rfl, Nat.le_of_ble_eq_true rfl⟩ hI hK 9 hL0.1 rfl hl.1 rfl rfl (Nat.le_of_ble_eq_true rfl) dX8_joinRight_7 ⟨Nat.le_of_ble_eq_true rfl, Nat.le_of_ble_eq_true rfl⟩) hI (fun M H locs hp hI => ?_)
  obtain ⟨hn0, hF⟩ := hp
  generalize heg1 : s_X8_link_r v p1 p2 = g1 at hn0 hR
  have hn := hn0
  have hL0 := hn
  have hS := hS.tr hF (fun q hq => by omega)
  exact q_vret (st := []) hx hb hret hlk hN hI (by subst hR; exact ⟨rfl, ⟨hL0, hS⟩, rfl⟩) dX8_joinRight_10
