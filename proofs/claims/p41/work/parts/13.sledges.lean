def s_X7_makeEmpty (v : qSV)  : qSV := ((rowFill v.1 (-1)), (rowFill v.2.1 0), (rowFill v.2.2.1 0), (rowFill v.2.2.2.1 0), 0)
set_option maxHeartbeats 4000000 in
set_option maxRecDepth 20000 in
theorem c_X7_makeEmpty (l : Launch) (D : va_G) (cs : qC) {M0 : qM} {N a : Nat} {v : qSV} (hL0 : qLS cs M0 a v) :
    qMet l D cs yX7_makeEmpty (qws yX7_makeEmpty cX7_makeEmpty 1 none) ({ frames := 1, cells := 0, slots := 0, locals := 22 } : Room) M0 N [.ref a] (qMod N none (fun M' => qLS cs M' a (s_X7_makeEmpty v) ∧ qFr (qIn a 5) M0 M')) 0 0 := by
  obtain ⟨R, hR⟩ : ∃ R, s_X7_makeEmpty v = R := ⟨_, rfl⟩
  rw [hR]
  rw [s_X7_makeEmpty] at hR
  refine q_head (by decide +kernel) ?_ (Nat.le_of_ble_eq_true rfl)
  intro p e s m below meth c ls hx hb hret hlk hml hown hnm hg hK hN hI hl
  have hl : lv_has ls 1 [(0, .ref a)] := hl
  have hS : qFr (qIn a 5) M0 M0 := qFr.rf
  refine lv_aload_n hx hb dX7_makeEmpty_0 rfl (lv_at hl 0 rfl) ?_
  refine lv_iconst (v := 0) hx hb dX7_makeEmpty_1 (by decide) ?_
  have hn := qLS.i4 0 hL0
  refine q_put (v := .int 0) hx hb hg in_X7 tyX7_ok nmX7 hown hK hI hL0.1 rfl 4 (by decide) (hg _ wf_X7_24) (fun _ h9 => h9) rfl rfl rfl (Nat.le_of_ble_eq_true rfl) dX7_makeEmpty_2 (fun H locs hI => ?_)
  obtain ⟨M, hn, hF, hI⟩ : ∃ Mx : qM, qLS cs Mx a (v.1, v.2.1, v.2.2.1, v.2.2.2.1, 0) ∧ qFr (qIn a 1) M0 Mx ∧ qI D M0 s.heap Mx N H locs := ⟨_, hn, qFr.up (by decide), hI⟩
  have hL0 := hn
  have hS := hS.tr hF (fun q hq => by omega)
  refine lv_aload_n hx hb dX7_makeEmpty_5 rfl (lv_at hl 0 rfl) ?_
  refine q_get hx hb hg in_X7 hown hK hI hL0.1 rfl 0 (by decide) (hg _ wf_X7_9) (fun _ h9 => h9) rfl dX7_makeEmpty_6 ?_
  refine lv_iconst (v := (-1)) hx hb dX7_makeEmpty_9 (by decide) ?_
  refine q_goN (q_runSN (As := [.ref (a + 1), .int (-1)]) (rest := []) hx hb hml hown hg (c_X10_fill l D cs hL0.2.1 (-1)) v_X10_fill (hK.2 _ (List.mem_of_getElem? (i := 11) rfl)) rfl rfl ⟨Nat.le_of_ble_eq_true rfl, Nat.le_of_ble_eq_true rfl⟩ hI hK hl.1 rfl rfl (Nat.le_of_ble_eq_true rfl) dX7_makeEmpty_10 ⟨Nat.le_of_ble_eq_true rfl, Nat.le_of_ble_eq_true rfl⟩) hI (fun M H locs hp hI => ?_)
  obtain ⟨hn0, hF⟩ := hp
  generalize heg1 : rowFill v.1 (-1) = g1 at hn0 hR
  have hn := hn0
  have hn : qLS cs M a (g1, v.2.1, v.2.2.1, v.2.2.2.1, 0) := qLS.s0 (v := (v.1, v.2.1, v.2.2.1, v.2.2.2.1, 0)) hL0 hn (qFr.rf.tr hF (fun q hq => by omega))
  have hL0 := hn
  have hS := hS.tr hF (fun q hq => by omega)
  refine lv_aload_n hx hb dX7_makeEmpty_13 rfl (lv_at hl 0 rfl) ?_
  refine q_get hx hb hg in_X7 hown hK hI hL0.1 rfl 1 (by decide) (hg _ wf_X7_15) (fun _ h9 => h9) rfl dX7_makeEmpty_14 ?_
  refine lv_iconst (v := 0) hx hb dX7_makeEmpty_17 (by decide) ?_
  refine q_goN (q_runSN (As := [.ref (a + 2), .int 0]) (rest := []) hx hb hml hown hg (c_X10_fill l D cs hL0.2.2.1 0) v_X10_fill (hK.2 _ (List.mem_of_getElem? (i := 11) rfl)) rfl rfl ⟨Nat.le_of_ble_eq_true rfl, Nat.le_of_ble_eq_true rfl⟩ hI hK hl.1 rfl rfl (Nat.le_of_ble_eq_true rfl) dX7_makeEmpty_18 ⟨Nat.le_of_ble_eq_true rfl, Nat.le_of_ble_eq_true rfl⟩) hI (fun M H locs hp hI => ?_)
  obtain ⟨hn0, hF⟩ := hp
  generalize heg2 : rowFill v.2.1 0 = g2 at hn0 hR
  have hn := hn0
  have hn : qLS cs M a (g1, g2, v.2.2.1, v.2.2.2.1, 0) := qLS.s1 (v := (g1, v.2.1, v.2.2.1, v.2.2.2.1, 0)) hL0 hn (qFr.rf.tr hF (fun q hq => by omega))
  have hL0 := hn
  have hS := hS.tr hF (fun q hq => by omega)
  refine lv_aload_n hx hb dX7_makeEmpty_21 rfl (lv_at hl 0 rfl) ?_
  refine q_get hx hb hg in_X7 hown hK hI hL0.1 rfl 2 (by decide) (hg _ wf_X7_18) (fun _ h9 => h9) rfl dX7_makeEmpty_22 ?_
  refine lv_iconst (v := 0) hx hb dX7_makeEmpty_25 (by decide) ?_
  refine q_goN (q_runSN (As := [.ref (a + 3), .int 0]) (rest := []) hx hb hml hown hg (c_X10_fill l D cs hL0.2.2.2.1 0) v_X10_fill (hK.2 _ (List.mem_of_getElem? (i := 11) rfl)) rfl rfl ⟨Nat.le_of_ble_eq_true rfl, Nat.le_of_ble_eq_true rfl⟩ hI hK hl.1 rfl rfl (Nat.le_of_ble_eq_true rfl) dX7_makeEmpty_26 ⟨Nat.le_of_ble_eq_true rfl, Nat.le_of_ble_eq_true rfl⟩) hI (fun M H locs hp hI => ?_)
  obtain ⟨hn0, hF⟩ := hp
  generalize heg3 : rowFill v.2.2.1 0 = g3 at hn0 hR
  have hn := hn0
  have hn : qLS cs M a (g1, g2, g3, v.2.2.2.1, 0) := qLS.s2 (v := (g1, g2, v.2.2.1, v.2.2.2.1, 0)) hL0 hn (qFr.rf.tr hF (fun q hq => by omega))
  have hL0 := hn
  have hS := hS.tr hF (fun q hq => by omega)
  refine lv_aload_n hx hb dX7_makeEmpty_29 rfl (lv_at hl 0 rfl) ?_
  refine q_get hx hb hg in_X7 hown hK hI hL0.1 rfl 3 (by decide) (hg _ wf_X7_21) (fun _ h9 => h9) rfl dX7_makeEmpty_30 ?_
  refine lv_iconst (v := 0) hx hb dX7_makeEmpty_33 (by decide) ?_
  refine q_goN (q_runSN (As := [.ref (a + 4), .int 0]) (rest := []) hx hb hml hown hg (c_X10_fill l D cs hL0.2.2.2.2 0) v_X10_fill (hK.2 _ (List.mem_of_getElem? (i := 11) rfl)) rfl rfl ⟨Nat.le_of_ble_eq_true rfl, Nat.le_of_ble_eq_true rfl⟩ hI hK hl.1 rfl rfl (Nat.le_of_ble_eq_true rfl) dX7_makeEmpty_34 ⟨Nat.le_of_ble_eq_true rfl, Nat.le_of_ble_eq_true rfl⟩) hI (fun M H locs hp hI => ?_)
  obtain ⟨hn0, hF⟩ := hp
  generalize heg4 : rowFill v.2.2.2.1 0 = g4 at hn0 hR
  have hn := hn0
  have hn : qLS cs M a (g1, g2, g3, g4, 0) := qLS.s3 (v := (g1, g2, g3, v.2.2.2.1, 0)) hL0 hn (qFr.rf.tr hF (fun q hq => by omega))
  have hL0 := hn
  have hS := hS.tr hF (fun q hq => by omega)
  exact q_vret (st := []) hx hb hret hlk hN hI (by subst hR; exact ⟨rfl, ⟨hL0, hS⟩, rfl⟩) dX7_makeEmpty_37
def s_X7_add (v : qSV) (p1 : Int32) (p2 : Int32) : Int32 × qSV := (v.2.2.2.2, ((rowPut v.1 v.2.2.2.2 p1), (rowPut v.2.1 v.2.2.2.2 p2), (rowPut v.2.2.1 v.2.2.2.2 0), (rowPut v.2.2.2.1 v.2.2.2.2 0), v.2.2.2.2 + 1))
set_option maxHeartbeats 4000000 in
set_option maxRecDepth 20000 in
theorem c_X7_add (l : Launch) (D : va_G) (cs : qC) {M0 : qM} {N a : Nat} {v : qSV} (hL0 : qLS cs M0 a v) (p1 : Int32) (p2 : Int32) :
    qMet l D cs yX7_add (qws yX7_add cX7_add 4 (some .int)) ({ frames := 1, cells := 0, slots := 0, locals := 22 } : Room) M0 N [.ref a, .int p1, .int p2] (qMod N (some (.int ((s_X7_add v p1 p2).1))) (fun M' => qLS cs M' a ((s_X7_add v p1 p2).2) ∧ qFr (qIn a 5) M0 M')) 0 0 := by
  obtain ⟨R, hR⟩ : ∃ R, s_X7_add v p1 p2 = R := ⟨_, rfl⟩
  rw [hR]
  rw [s_X7_add] at hR
  refine q_head (by decide +kernel) ?_ (Nat.le_of_ble_eq_true rfl)
  intro p e s m below meth c ls hx hb hret hlk hml hown hnm hg hK hN hI hl
  have hl : lv_has ls 4 [(0, .ref a), (1, .int p1), (2, .int p2)] := hl
  have hS : qFr (qIn a 5) M0 M0 := qFr.rf
  refine lv_aload_n hx hb dX7_add_0 rfl (lv_at hl 0 rfl) ?_
  refine q_get hx hb hg in_X7 hown hK hI hL0.1 rfl 4 (by decide) (hg _ wf_X7_24) (fun _ h9 => h9) rfl dX7_add_1 ?_
  refine lv_istore_n (lv' := [(3, .int v.2.2.2.2), (0, .ref a), (1, .int p1), (2, .int p2)]) hx hb dX7_add_4 rfl hl (by decide) rfl (fun ls hl => ?_)
  refine lv_aload_n hx hb dX7_add_5 rfl (lv_at hl 1 rfl) ?_
  refine q_get hx hb hg in_X7 hown hK hI hL0.1 rfl 0 (by decide) (hg _ wf_X7_9) (fun _ h9 => h9) rfl dX7_add_6 ?_
  refine lv_iload_n hx hb dX7_add_9 rfl (lv_at hl 0 rfl) ?_
  refine lv_iload_n hx hb dX7_add_10 rfl (lv_at hl 2 rfl) ?_
  refine q_goN (q_runSN (As := [.ref (a + 1), .int v.2.2.2.2, .int p1]) (rest := []) hx hb hml hown hg (c_X10_put l D cs hL0.2.1 v.2.2.2.2 p1) v_X10_put (hK.2 _ (List.mem_of_getElem? (i := 40) rfl)) rfl rfl ⟨Nat.le_of_ble_eq_true rfl, Nat.le_of_ble_eq_true rfl⟩ hI hK hl.1 rfl rfl (Nat.le_of_ble_eq_true rfl) dX7_add_11 ⟨Nat.le_of_ble_eq_true rfl, Nat.le_of_ble_eq_true rfl⟩) hI (fun M H locs hp hI => ?_)
  obtain ⟨hn0, hF⟩ := hp
  generalize heg1 : rowPut v.1 v.2.2.2.2 p1 = g1 at hn0 hR
  have hn := hn0
  have hn : qLS cs M a (g1, v.2.1, v.2.2.1, v.2.2.2.1, v.2.2.2.2) := qLS.s0 (v := v) hL0 hn (qFr.rf.tr hF (fun q hq => by omega))
  have hL0 := hn
  have hS := hS.tr hF (fun q hq => by omega)
  refine lv_aload_n hx hb dX7_add_14 rfl (lv_at hl 1 rfl) ?_
  refine q_get hx hb hg in_X7 hown hK hI hL0.1 rfl 1 (by decide) (hg _ wf_X7_15) (fun _ h9 => h9) rfl dX7_add_15 ?_
  refine lv_iload_n hx hb dX7_add_18 rfl (lv_at hl 0 rfl) ?_
  refine lv_iload_n hx hb dX7_add_19 rfl (lv_at hl 3 rfl) ?_
  refine q_goN (q_runSN (As := [.ref (a + 2), .int v.2.2.2.2, .int p2]) (rest := []) hx hb hml hown hg (c_X10_put l D cs hL0.2.2.1 v.2.2.2.2 p2) v_X10_put (hK.2 _ (List.mem_of_getElem? (i := 40) rfl)) rfl rfl ⟨Nat.le_of_ble_eq_true rfl, Nat.le_of_ble_eq_true rfl⟩ hI hK hl.1 rfl rfl (Nat.le_of_ble_eq_true rfl) dX7_add_20 ⟨Nat.le_of_ble_eq_true rfl, Nat.le_of_ble_eq_true rfl⟩) hI (fun M H locs hp hI => ?_)
  obtain ⟨hn0, hF⟩ := hp
  generalize heg2 : rowPut v.2.1 v.2.2.2.2 p2 = g2 at hn0 hR
  have hn := hn0
  have hn : qLS cs M a (g1, g2, v.2.2.1, v.2.2.2.1, v.2.2.2.2) := qLS.s1 (v := (g1, v.2.1, v.2.2.1, v.2.2.2.1, v.2.2.2.2)) hL0 hn (qFr.rf.tr hF (fun q hq => by omega))
  have hL0 := hn
  have hS := hS.tr hF (fun q hq => by omega)
  refine lv_aload_n hx hb dX7_add_23 rfl (lv_at hl 1 rfl) ?_
  refine q_get hx hb hg in_X7 hown hK hI hL0.1 rfl 2 (by decide) (hg _ wf_X7_18) (fun _ h9 => h9) rfl dX7_add_24 ?_
  refine lv_iload_n hx hb dX7_add_27 rfl (lv_at hl 0 rfl) ?_
  refine lv_iconst (v := 0) hx hb dX7_add_28 (by decide) ?_
  refine q_goN (q_runSN (As := [.ref (a + 3), .int v.2.2.2.2, .int 0]) (rest := []) hx hb hml hown hg (c_X10_put l D cs hL0.2.2.2.1 v.2.2.2.2 0) v_X10_put (hK.2 _ (List.mem_of_getElem? (i := 40) rfl)) rfl rfl ⟨Nat.le_of_ble_eq_true rfl, Nat.le_of_ble_eq_true rfl⟩ hI hK hl.1 rfl rfl (Nat.le_of_ble_eq_true rfl) dX7_add_29 ⟨Nat.le_of_ble_eq_true rfl, Nat.le_of_ble_eq_true rfl⟩) hI (fun M H locs hp hI => ?_)
  obtain ⟨hn0, hF⟩ := hp
  generalize heg3 : rowPut v.2.2.1 v.2.2.2.2 0 = g3 at hn0 hR
  have hn := hn0
  have hn : qLS cs M a (g1, g2, g3, v.2.2.2.1, v.2.2.2.2) := qLS.s2 (v := (g1, g2, v.2.2.1, v.2.2.2.1, v.2.2.2.2)) hL0 hn (qFr.rf.tr hF (fun q hq => by omega))
  have hL0 := hn
  have hS := hS.tr hF (fun q hq => by omega)
  refine lv_aload_n hx hb dX7_add_32 rfl (lv_at hl 1 rfl) ?_
  refine q_get hx hb hg in_X7 hown hK hI hL0.1 rfl 3 (by decide) (hg _ wf_X7_21) (fun _ h9 => h9) rfl dX7_add_33 ?_
  refine lv_iload_n hx hb dX7_add_36 rfl (lv_at hl 0 rfl) ?_
  refine lv_iconst (v := 0) hx hb dX7_add_37 (by decide) ?_
  refine q_goN (q_runSN (As := [.ref (a + 4), .int v.2.2.2.2, .int 0]) (rest := []) hx hb hml hown hg (c_X10_put l D cs hL0.2.2.2.2 v.2.2.2.2 0) v_X10_put (hK.2 _ (List.mem_of_getElem? (i := 40) rfl)) rfl rfl ⟨Nat.le_of_ble_eq_true rfl, Nat.le_of_ble_eq_true rfl⟩ hI hK hl.1 rfl rfl (Nat.le_of_ble_eq_true rfl) dX7_add_38 ⟨Nat.le_of_ble_eq_true rfl, Nat.le_of_ble_eq_true rfl⟩) hI (fun M H locs hp hI => ?_)
  obtain ⟨hn0, hF⟩ := hp
  generalize heg4 : rowPut v.2.2.2.1 v.2.2.2.2 0 = g4 at hn0 hR
  have hn := hn0
  have hn : qLS cs M a (g1, g2, g3, g4, v.2.2.2.2) := qLS.s3 (v := (g1, g2, g3, v.2.2.2.1, v.2.2.2.2)) hL0 hn (qFr.rf.tr hF (fun q hq => by omega))
  have hL0 := hn
  have hS := hS.tr hF (fun q hq => by omega)
  refine lv_aload_n hx hb dX7_add_41 rfl (lv_at hl 1 rfl) ?_
  refine lv_dup hx hb dX7_add_42 rfl ?_
  refine q_get hx hb hg in_X7 hown hK hI hL0.1 rfl 4 (by decide) (hg _ wf_X7_24) (fun _ h9 => h9) rfl dX7_add_43 ?_
  refine lv_iconst (v := 1) hx hb dX7_add_46 (by decide) ?_
  refine lv_iadd hx hb dX7_add_47 ?_
  have hn := qLS.i4 (v.2.2.2.2 + 1) hL0
  refine q_put (v := .int (v.2.2.2.2 + 1)) hx hb hg in_X7 tyX7_ok nmX7 hown hK hI hL0.1 rfl 4 (by decide) (hg _ wf_X7_24) (fun _ h9 => h9) rfl rfl rfl (Nat.le_of_ble_eq_true rfl) dX7_add_48 (fun H locs hI => ?_)
  obtain ⟨M, hn, hF, hI⟩ : ∃ Mx : qM, qLS cs Mx a (g1, g2, g3, g4, v.2.2.2.2 + 1) ∧ qFr (qIn a 1) M Mx ∧ qI D M0 s.heap Mx N H locs := ⟨_, hn, qFr.up (by decide), hI⟩
  have hL0 := hn
  have hS := hS.tr hF (fun q hq => by omega)
  refine lv_iload_n hx hb dX7_add_51 rfl (lv_at hl 0 rfl) ?_
  exact q_iret hx hb hret hlk hN hI (by subst hR; exact ⟨rfl, ⟨hL0, hS⟩, rfl⟩) dX7_add_52
def s_X7_isUnderway (v : qSV) (p1 : Int32) : Bool := (if p1 < 0 then false else (if v.2.2.2.2 ≤ p1 then false else (if (rowAt v.2.2.2.1 p1) = 0 then true else false)))
set_option maxHeartbeats 4000000 in
set_option maxRecDepth 20000 in
theorem c_X7_isUnderway (l : Launch) (D : va_G) (cs : qC) {M0 : qM} {N a : Nat} {v : qSV} (hL0 : qLS cs M0 a v) (p1 : Int32) :
    qMet l D cs yX7_isUnderway (qws yX7_isUnderway cX7_isUnderway 2 (some .boolean)) ({ frames := 1, cells := 0, slots := 0, locals := 21 } : Room) M0 N [.ref a, .int p1] (qRet M0 N (.int (qbi (s_X7_isUnderway v p1)))) 0 0 := by
  obtain ⟨R, hR⟩ : ∃ R, s_X7_isUnderway v p1 = R := ⟨_, rfl⟩
  rw [hR]
  rw [s_X7_isUnderway] at hR
  refine q_head (by decide +kernel) ?_ (Nat.le_of_ble_eq_true rfl)
  intro p e s m below meth c ls hx hb hret hlk hml hown hnm hg hK hN hI hl
  have hl : lv_has ls 2 [(0, .ref a), (1, .int p1)] := hl
  refine lv_iload_n hx hb dX7_isUnderway_0 rfl (lv_at hl 1 rfl) ?_
  refine lv_if_lt (tgt := 27) hx hb dX7_isUnderway_1 (by decide) (fun c1 => ?_) (fun c1 => ?_)
  · rw [if_pos c1] at hR
    refine lv_iconst (v := 0) hx hb dX7_isUnderway_27 (by decide) ?_
    exact q_zret hx hb hret rfl hlk hN hI (by subst hR; exact ⟨rfl, rfl, rfl⟩) dX7_isUnderway_28
  · rw [if_neg c1] at hR
    refine lv_iload_n hx hb dX7_isUnderway_4 rfl (lv_at hl 1 rfl) ?_
    refine lv_aload_n hx hb dX7_isUnderway_5 rfl (lv_at hl 0 rfl) ?_
    refine q_get hx hb hg in_X7 hown hK hI hL0.1 rfl 4 (by decide) (hg _ wf_X7_24) (fun _ h9 => h9) rfl dX7_isUnderway_6 ?_
    refine lv_icmp_ge (tgt := 27) hx hb dX7_isUnderway_9 (by decide) (fun c2 => ?_) (fun c2 => ?_)
    · rw [if_pos c2] at hR
      refine lv_iconst (v := 0) hx hb dX7_isUnderway_27 (by decide) ?_
      exact q_zret hx hb hret rfl hlk hN hI (by subst hR; exact ⟨rfl, rfl, rfl⟩) dX7_isUnderway_28
    · rw [if_neg c2] at hR
      refine lv_aload_n hx hb dX7_isUnderway_12 rfl (lv_at hl 0 rfl) ?_
      refine q_get hx hb hg in_X7 hown hK hI hL0.1 rfl 3 (by decide) (hg _ wf_X7_21) (fun _ h9 => h9) rfl dX7_isUnderway_13 ?_
      refine lv_iload_n hx hb dX7_isUnderway_16 rfl (lv_at hl 1 rfl) ?_
      refine q_goR (q_runSN (As := [.ref (a + 4), .int p1]) (rest := []) hx hb hml hown hg (c_X10_at l D cs hL0.2.2.2.2 p1) v_X10_at (hK.2 _ (List.mem_of_getElem? (i := 41) rfl)) rfl rfl ⟨Nat.le_of_ble_eq_true rfl, Nat.le_of_ble_eq_true rfl⟩ hI hK hl.1 rfl rfl (Nat.le_of_ble_eq_true rfl) dX7_isUnderway_17 ⟨Nat.le_of_ble_eq_true rfl, Nat.le_of_ble_eq_true rfl⟩) hI (fun H locs hI => ?_)
      refine lv_if_ne (tgt := 27) hx hb dX7_isUnderway_20 (by decide) (fun c3 => ?_) (fun c3 => ?_)
      · rw [if_neg c3] at hR
        refine lv_iconst (v := 0) hx hb dX7_isUnderway_27 (by decide) ?_
        exact q_zret hx hb hret rfl hlk hN hI (by subst hR; exact ⟨rfl, rfl, rfl⟩) dX7_isUnderway_28
      · rw [if_pos c3] at hR
        refine lv_iconst (v := 1) hx hb dX7_isUnderway_23 (by decide) ?_
        refine lv_goto (tgt := 28) hx hb dX7_isUnderway_24 (by decide) ?_
        exact q_zret hx hb hret rfl hlk hN hI (by subst hR; exact ⟨rfl, rfl, rfl⟩) dX7_isUnderway_28
def s_X7_placeAt (v : qSV) (p1 : Int32) : Int32 := rowAt v.1 p1
set_option maxHeartbeats 4000000 in
set_option maxRecDepth 20000 in
theorem c_X7_placeAt (l : Launch) (D : va_G) (cs : qC) {M0 : qM} {N a : Nat} {v : qSV} (hL0 : qLS cs M0 a v) (p1 : Int32) :
    qMet l D cs yX7_placeAt (qws yX7_placeAt cX7_placeAt 2 (some .int)) ({ frames := 1, cells := 0, slots := 0, locals := 21 } : Room) M0 N [.ref a, .int p1] (qRet M0 N (.int (s_X7_placeAt v p1))) 0 0 := by
  obtain ⟨R, hR⟩ : ∃ R, s_X7_placeAt v p1 = R := ⟨_, rfl⟩
  rw [hR]
  rw [s_X7_placeAt] at hR
  refine q_head (by decide +kernel) ?_ (Nat.le_of_ble_eq_true rfl)
  intro p e s m below meth c ls hx hb hret hlk hml hown hnm hg hK hN hI hl
  have hl : lv_has ls 2 [(0, .ref a), (1, .int p1)] := hl
  refine lv_aload_n hx hb dX7_placeAt_0 rfl (lv_at hl 0 rfl) ?_
  refine q_get hx hb hg in_X7 hown hK hI hL0.1 rfl 0 (by decide) (hg _ wf_X7_9) (fun _ h9 => h9) rfl dX7_placeAt_1 ?_
  refine lv_iload_n hx hb dX7_placeAt_4 rfl (lv_at hl 1 rfl) ?_
  refine q_goR (q_runSN (As := [.ref (a + 1), .int p1]) (rest := []) hx hb hml hown hg (c_X10_at l D cs hL0.2.1 p1) v_X10_at (hK.2 _ (List.mem_of_getElem? (i := 41) rfl)) rfl rfl ⟨Nat.le_of_ble_eq_true rfl, Nat.le_of_ble_eq_true rfl⟩ hI hK hl.1 rfl rfl (Nat.le_of_ble_eq_true rfl) dX7_placeAt_5 ⟨Nat.le_of_ble_eq_true rfl, Nat.le_of_ble_eq_true rfl⟩) hI (fun H locs hI => ?_)
  exact q_iret hx hb hret hlk hN hI (by subst hR; exact ⟨rfl, rfl, rfl⟩) dX7_placeAt_8
def s_X7_drag (v : qSV) (p1 : Int32) (p2 : Int32) : qSV := (if p2 < 0 then (v.1, v.2.1, (rowPut v.2.2.1 p1 ((rowAt v.2.2.1 p1) + 1)), (rowPut v.2.2.2.1 p1 1), v.2.2.2.2) else ((rowPut v.1 p1 p2), v.2.1, (rowPut v.2.2.1 p1 ((rowAt v.2.2.1 p1) + 1)), v.2.2.2.1, v.2.2.2.2))
set_option maxHeartbeats 4000000 in
set_option maxRecDepth 20000 in
theorem c_X7_drag (l : Launch) (D : va_G) (cs : qC) {M0 : qM} {N a : Nat} {v : qSV} (hL0 : qLS cs M0 a v) (p1 : Int32) (p2 : Int32) :
    qMet l D cs yX7_drag (qws yX7_drag cX7_drag 3 none) ({ frames := 1, cells := 0, slots := 0, locals := 22 } : Room) M0 N [.ref a, .int p1, .int p2] (qMod N none (fun M' => qLS cs M' a (s_X7_drag v p1 p2) ∧ qFr (qIn a 5) M0 M')) 0 0 := by
  obtain ⟨R, hR⟩ : ∃ R, s_X7_drag v p1 p2 = R := ⟨_, rfl⟩
  rw [hR]
  rw [s_X7_drag] at hR
  refine q_head (by decide +kernel) ?_ (Nat.le_of_ble_eq_true rfl)
  intro p e s m below meth c ls hx hb hret hlk hml hown hnm hg hK hN hI hl
  have hl : lv_has ls 3 [(0, .ref a), (1, .int p1), (2, .int p2)] := hl
  have hS : qFr (qIn a 5) M0 M0 := qFr.rf
  refine lv_aload_n hx hb dX7_drag_0 rfl (lv_at hl 0 rfl) ?_
  refine q_get hx hb hg in_X7 hown hK hI hL0.1 rfl 2 (by decide) (hg _ wf_X7_18) (fun _ h9 => h9) rfl dX7_drag_1 ?_
  refine lv_iload_n hx hb dX7_drag_4 rfl (lv_at hl 1 rfl) ?_
  refine lv_aload_n hx hb dX7_drag_5 rfl (lv_at hl 0 rfl) ?_
  refine q_get hx hb hg in_X7 hown hK hI hL0.1 rfl 2 (by decide) (hg _ wf_X7_18) (fun _ h9 => h9) rfl dX7_drag_6 ?_
  refine lv_iload_n hx hb dX7_drag_9 rfl (lv_at hl 1 rfl) ?_
  refine q_goR (q_runSN (As := [.ref (a + 3), .int p1]) (rest := [.int p1, .ref (a + 3)]) hx hb hml hown hg (c_X10_at l D cs hL0.2.2.2.1 p1) v_X10_at (hK.2 _ (List.mem_of_getElem? (i := 41) rfl)) rfl rfl ⟨Nat.le_of_ble_eq_true rfl, Nat.le_of_ble_eq_true rfl⟩ hI hK hl.1 rfl rfl (Nat.le_of_ble_eq_true rfl) dX7_drag_10 ⟨Nat.le_of_ble_eq_true rfl, Nat.le_of_ble_eq_true rfl⟩) hI (fun H locs hI => ?_)
  refine lv_iconst (v := 1) hx hb dX7_drag_13 (by decide) ?_
  refine lv_iadd hx hb dX7_drag_14 ?_
  refine q_goN (q_runSN (As := [.ref (a + 3), .int p1, .int ((rowAt v.2.2.1 p1) + 1)]) (rest := []) hx hb hml hown hg (c_X10_put l D cs hL0.2.2.2.1 p1 ((rowAt v.2.2.1 p1) + 1)) v_X10_put (hK.2 _ (List.mem_of_getElem? (i := 40) rfl)) rfl rfl ⟨Nat.le_of_ble_eq_true rfl, Nat.le_of_ble_eq_true rfl⟩ hI hK hl.1 rfl rfl (Nat.le_of_ble_eq_true rfl) dX7_drag_15 ⟨Nat.le_of_ble_eq_true rfl, Nat.le_of_ble_eq_true rfl⟩) hI (fun M H locs hp hI => ?_)
  obtain ⟨hn0, hF⟩ := hp
  generalize heg1 : rowPut v.2.2.1 p1 ((rowAt v.2.2.1 p1) + 1) = g1 at hn0 hR
  have hn := hn0
  have hn : qLS cs M a (v.1, v.2.1, g1, v.2.2.2.1, v.2.2.2.2) := qLS.s2 (v := v) hL0 hn (qFr.rf.tr hF (fun q hq => by omega))
  have hL0 := hn
  have hS := hS.tr hF (fun q hq => by omega)
  refine lv_iload_n hx hb dX7_drag_18 rfl (lv_at hl 2 rfl) ?_
  refine lv_if_lt (tgt := 34) hx hb dX7_drag_19 (by decide) (fun c2 => ?_) (fun c2 => ?_)
  · rw [if_pos c2] at hR
    refine lv_aload_n hx hb dX7_drag_34 rfl (lv_at hl 0 rfl) ?_
    refine q_get hx hb hg in_X7 hown hK hI hL0.1 rfl 3 (by decide) (hg _ wf_X7_21) (fun _ h9 => h9) rfl dX7_drag_35 ?_
    refine lv_iload_n hx hb dX7_drag_38 rfl (lv_at hl 1 rfl) ?_
    refine lv_iconst (v := 1) hx hb dX7_drag_39 (by decide) ?_
    refine q_goN (q_runSN (As := [.ref (a + 4), .int p1, .int 1]) (rest := []) hx hb hml hown hg (c_X10_put l D cs hL0.2.2.2.2 p1 1) v_X10_put (hK.2 _ (List.mem_of_getElem? (i := 40) rfl)) rfl rfl ⟨Nat.le_of_ble_eq_true rfl, Nat.le_of_ble_eq_true rfl⟩ hI hK hl.1 rfl rfl (Nat.le_of_ble_eq_true rfl) dX7_drag_40 ⟨Nat.le_of_ble_eq_true rfl, Nat.le_of_ble_eq_true rfl⟩) hI (fun M H locs hp hI => ?_)
    obtain ⟨hn0, hF⟩ := hp
    generalize heg3 : rowPut v.2.2.2.1 p1 1 = g3 at hn0 hR
    have hn := hn0
    have hn : qLS cs M a (v.1, v.2.1, g1, g3, v.2.2.2.2) := qLS.s3 (v := (v.1, v.2.1, g1, v.2.2.2.1, v.2.2.2.2)) hL0 hn (qFr.rf.tr hF (fun q hq => by omega))
    have hL0 := hn
    have hS := hS.tr hF (fun q hq => by omega)
    exact q_vret (st := []) hx hb hret hlk hN hI (by subst hR; exact ⟨rfl, ⟨hL0, hS⟩, rfl⟩) dX7_drag_43
  · rw [if_neg c2] at hR
    refine lv_aload_n hx hb dX7_drag_22 rfl (lv_at hl 0 rfl) ?_
    refine q_get hx hb hg in_X7 hown hK hI hL0.1 rfl 0 (by decide) (hg _ wf_X7_9) (fun _ h9 => h9) rfl dX7_drag_23 ?_
    refine lv_iload_n hx hb dX7_drag_26 rfl (lv_at hl 1 rfl) ?_
    refine lv_iload_n hx hb dX7_drag_27 rfl (lv_at hl 2 rfl) ?_
    refine q_goN (q_runSN (As := [.ref (a + 1), .int p1, .int p2]) (rest := []) hx hb hml hown hg (c_X10_put l D cs hL0.2.1 p1 p2) v_X10_put (hK.2 _ (List.mem_of_getElem? (i := 40) rfl)) rfl rfl ⟨Nat.le_of_ble_eq_true rfl, Nat.le_of_ble_eq_true rfl⟩ hI hK hl.1 rfl rfl (Nat.le_of_ble_eq_true rfl) dX7_drag_28 ⟨Nat.le_of_ble_eq_true rfl, Nat.le_of_ble_eq_true rfl⟩) hI (fun M H locs hp hI => ?_)
    obtain ⟨hn0, hF⟩ := hp
    generalize heg4 : rowPut v.1 p1 p2 = g4 at hn0 hR
    have hn := hn0
    have hn : qLS cs M a (g4, v.2.1, g1, v.2.2.2.1, v.2.2.2.2) := qLS.s0 (v := (v.1, v.2.1, g1, v.2.2.2.1, v.2.2.2.2)) hL0 hn (qFr.rf.tr hF (fun q hq => by omega))
    have hL0 := hn
    have hS := hS.tr hF (fun q hq => by omega)
    refine lv_goto (tgt := 43) hx hb dX7_drag_31 (by decide) ?_
    exact q_vret (st := []) hx hb hret hlk hN hI (by subst hR; exact ⟨rfl, ⟨hL0, hS⟩, rfl⟩) dX7_drag_43
def s_X7_countArrived_L4 (v : qSV) : Nat → Int32 → Int32 → Int32
  | 0, _, _ => default
  | n + 1, x1h4, x2h4 => (if v.2.2.2.2 ≤ x2h4 then x1h4 else (s_X7_countArrived_L4 v n (x1h4 + (rowAt v.2.2.2.1 x2h4)) (x2h4 + 1)))
def s_X7_countArrived (v : qSV)  : Int32 := (s_X7_countArrived_L4 v (v.2.2.2.2.toInt.toNat + 1) 0 0)
set_option maxHeartbeats 4000000 in
set_option maxRecDepth 20000 in
theorem c_X7_countArrived (l : Launch) (D : va_G) (cs : qC) {M0 : qM} {N a : Nat} {v : qSV} (hL0 : qLS cs M0 a v) :
    qMet l D cs yX7_countArrived (qws yX7_countArrived cX7_countArrived 3 (some .int)) ({ frames := 1, cells := 0, slots := 0, locals := 21 } : Room) M0 N [.ref a] (qRet M0 N (.int (s_X7_countArrived v))) 0 0 := by
  obtain ⟨R, hR⟩ : ∃ R, s_X7_countArrived v = R := ⟨_, rfl⟩
  rw [hR]
  rw [s_X7_countArrived] at hR
  refine q_head (by decide +kernel) ?_ (Nat.le_of_ble_eq_true rfl)
  intro p e s m below meth c ls hx hb hret hlk hml hown hnm hg hK hN hI hl
  have hl : lv_has ls 3 [(0, .ref a)] := hl
  refine lv_iconst (v := 0) hx hb dX7_countArrived_0 (by decide) ?_
  refine lv_istore_n (lv' := [(1, .int 0), (0, .ref a)]) hx hb dX7_countArrived_1 rfl hl (by decide) rfl (fun ls hl => ?_)
  refine lv_iconst (v := 0) hx hb dX7_countArrived_2 (by decide) ?_
  refine lv_istore_n (lv' := [(2, .int 0), (1, .int 0), (0, .ref a)]) hx hb dX7_countArrived_3 rfl hl (by decide) rfl (fun ls hl => ?_)
  have loop4 : ∀ (n4 : Nat) (x1h4 : Int32) (x2h4 : Int32), qmu v.2.2.2.2 x2h4 < n4 → s_X7_countArrived_L4 v n4 x1h4 x2h4 = R → ∀ (H : Heap) (locs : List Loc) (ls : Array Slot), qI D M0 s.heap M0 N H locs → lv_has ls 3 [(0, .ref a), (1, .int x1h4), (2, .int x2h4)] →
      W p l e ({ frames := 1, cells := 0, slots := 0, locals := 21 } : Room) s m [Value.ref a].toArray below meth c H locs 0 0 (MQ below (qQ D M0 N (qRet M0 N (.int R))) [Value.ref a].toArray s 0 0 (qA M0 N)) (F0 m 4 ls []) := by
    intro n4
    induction n4 with
    | zero => intro x1h4 x2h4 hm; exact absurd hm (Nat.not_lt_zero _)
    | succ n4 ih4 =>
      intro x1h4 x2h4 hm4 hR H locs ls  hI hl
      rw [s_X7_countArrived_L4] at hR
      refine lv_iload_n hx hb dX7_countArrived_4 rfl (lv_at hl 2 rfl) ?_
      refine lv_aload_n hx hb dX7_countArrived_5 rfl (lv_at hl 0 rfl) ?_
      refine q_get hx hb hg in_X7 hown hK hI hL0.1 rfl 4 (by decide) (hg _ wf_X7_24) (fun _ h9 => h9) rfl dX7_countArrived_6 ?_
      refine lv_icmp_ge (tgt := 29) hx hb dX7_countArrived_9 (by decide) (fun c1 => ?_) (fun c1 => ?_)
      · rw [if_pos c1] at hR
        refine lv_iload_n hx hb dX7_countArrived_29 rfl (lv_at hl 1 rfl) ?_
        exact q_iret hx hb hret hlk hN hI (by subst hR; exact ⟨rfl, rfl, rfl⟩) dX7_countArrived_30
      · rw [if_neg c1] at hR
        refine lv_iload_n hx hb dX7_countArrived_12 rfl (lv_at hl 1 rfl) ?_
        refine lv_aload_n hx hb dX7_countArrived_13 rfl (lv_at hl 0 rfl) ?_
        refine q_get hx hb hg in_X7 hown hK hI hL0.1 rfl 3 (by decide) (hg _ wf_X7_21) (fun _ h9 => h9) rfl dX7_countArrived_14 ?_
        refine lv_iload_n hx hb dX7_countArrived_17 rfl (lv_at hl 2 rfl) ?_
        refine q_goR (q_runSN (As := [.ref (a + 4), .int x2h4]) (rest := [.int x1h4]) hx hb hml hown hg (c_X10_at l D cs hL0.2.2.2.2 x2h4) v_X10_at (hK.2 _ (List.mem_of_getElem? (i := 41) rfl)) rfl rfl ⟨Nat.le_of_ble_eq_true rfl, Nat.le_of_ble_eq_true rfl⟩ hI hK hl.1 rfl rfl (Nat.le_of_ble_eq_true rfl) dX7_countArrived_18 ⟨Nat.le_of_ble_eq_true rfl, Nat.le_of_ble_eq_true rfl⟩) hI (fun H locs hI => ?_)
        refine lv_iadd hx hb dX7_countArrived_21 ?_
        refine lv_istore_n (lv' := [(1, .int (x1h4 + (rowAt v.2.2.2.1 x2h4))), (0, .ref a), (2, .int x2h4)]) hx hb dX7_countArrived_22 rfl hl (by decide) rfl (fun ls hl => ?_)
        refine lv_iinc (v := x2h4 + 1) (lv' := [(2, .int (x2h4 + 1)), (1, .int (x1h4 + (rowAt v.2.2.2.1 x2h4))), (0, .ref a)]) hx hb dX7_countArrived_23 hl (k := 2) rfl rfl (by decide) rfl (fun ls hl => ?_)
        refine lv_goto (tgt := 4) hx hb dX7_countArrived_26 (by decide) ?_
        exact ih4 (x1h4 + (rowAt v.2.2.2.1 x2h4)) (x2h4 + 1) (q_mu c1 hm4) hR _ _ _  hI (lv_sub hl [2, 1, 0] rfl)
  exact loop4 _ 0 0 (q_fuel _) hR _ _ _  hI (lv_sub hl [2, 1, 0] rfl)
def s_X7_countUnderway (v : qSV)  : Int32 := v.2.2.2.2 - (s_X7_countArrived v)
set_option maxHeartbeats 4000000 in
set_option maxRecDepth 20000 in
theorem c_X7_countUnderway (l : Launch) (D : va_G) (cs : qC) {M0 : qM} {N a : Nat} {v : qSV} (hL0 : qLS cs M0 a v) :
    qMet l D cs yX7_countUnderway (qws yX7_countUnderway cX7_countUnderway 1 (some .int)) ({ frames := 2, cells := 0, slots := 0, locals := 43 } : Room) M0 N [.ref a] (qRet M0 N (.int (s_X7_countUnderway v))) 0 0 := by
  obtain ⟨R, hR⟩ : ∃ R, s_X7_countUnderway v = R := ⟨_, rfl⟩
  rw [hR]
  rw [s_X7_countUnderway] at hR
  refine q_head (by decide +kernel) ?_ (Nat.le_of_ble_eq_true rfl)
  intro p e s m below meth c ls hx hb hret hlk hml hown hnm hg hK hN hI hl
  have hl : lv_has ls 1 [(0, .ref a)] := hl
  refine lv_aload_n hx hb dX7_countUnderway_0 rfl (lv_at hl 0 rfl) ?_
  refine q_get hx hb hg in_X7 hown hK hI hL0.1 rfl 4 (by decide) (hg _ wf_X7_24) (fun _ h9 => h9) rfl dX7_countUnderway_1 ?_
  refine lv_aload_n hx hb dX7_countUnderway_4 rfl (lv_at hl 0 rfl) ?_
  refine q_goR (q_runV (As := []) (rest := [.int v.2.2.2.2]) hx hb hml hown hg (c_X7_countArrived l D cs hL0) v_X7_countArrived wl_X7_44 rfl rfl ⟨Nat.le_of_ble_eq_true rfl, Nat.le_of_ble_eq_true rfl⟩ hI hK 8 hL0.1 rfl hl.1 rfl rfl (Nat.le_of_ble_eq_true rfl) dX7_countUnderway_5 ⟨Nat.le_of_ble_eq_true rfl, Nat.le_of_ble_eq_true rfl⟩) hI (fun H locs hI => ?_)
  refine lv_isub hx hb dX7_countUnderway_8 ?_
  exact q_iret hx hb hret hlk hN hI (by subst hR; exact ⟨rfl, rfl, rfl⟩) dX7_countUnderway_9
def s_X7_arrivedLoads_L4 (v : qSV) : Nat → Int32 → Int32 → Int32
  | 0, _, _ => default
  | n + 1, x1h4, x2h4 => (if v.2.2.2.2 ≤ x2h4 then x1h4 else (if (rowAt v.2.2.2.1 x2h4) = 1 then (s_X7_arrivedLoads_L4 v n (x1h4 + (rowAt v.2.1 x2h4)) (x2h4 + 1)) else (s_X7_arrivedLoads_L4 v n (x1h4 + 0) (x2h4 + 1))))
def s_X7_arrivedLoads (v : qSV)  : Int32 := (s_X7_arrivedLoads_L4 v (v.2.2.2.2.toInt.toNat + 1) 0 0)
set_option maxHeartbeats 4000000 in
set_option maxRecDepth 20000 in
theorem c_X7_arrivedLoads (l : Launch) (D : va_G) (cs : qC) {M0 : qM} {N a : Nat} {v : qSV} (hL0 : qLS cs M0 a v) :
    qMet l D cs yX7_arrivedLoads (qws yX7_arrivedLoads cX7_arrivedLoads 3 (some .int)) ({ frames := 1, cells := 0, slots := 0, locals := 21 } : Room) M0 N [.ref a] (qRet M0 N (.int (s_X7_arrivedLoads v))) 0 0 := by
  obtain ⟨R, hR⟩ : ∃ R, s_X7_arrivedLoads v = R := ⟨_, rfl⟩
  rw [hR]
  rw [s_X7_arrivedLoads] at hR
  refine q_head (by decide +kernel) ?_ (Nat.le_of_ble_eq_true rfl)
  intro p e s m below meth c ls hx hb hret hlk hml hown hnm hg hK hN hI hl
  have hl : lv_has ls 3 [(0, .ref a)] := hl
  refine lv_iconst (v := 0) hx hb dX7_arrivedLoads_0 (by decide) ?_
  refine lv_istore_n (lv' := [(1, .int 0), (0, .ref a)]) hx hb dX7_arrivedLoads_1 rfl hl (by decide) rfl (fun ls hl => ?_)
  refine lv_iconst (v := 0) hx hb dX7_arrivedLoads_2 (by decide) ?_
  refine lv_istore_n (lv' := [(2, .int 0), (1, .int 0), (0, .ref a)]) hx hb dX7_arrivedLoads_3 rfl hl (by decide) rfl (fun ls hl => ?_)
  have loop4 : ∀ (n4 : Nat) (x1h4 : Int32) (x2h4 : Int32), qmu v.2.2.2.2 x2h4 < n4 → s_X7_arrivedLoads_L4 v n4 x1h4 x2h4 = R → ∀ (H : Heap) (locs : List Loc) (ls : Array Slot), qI D M0 s.heap M0 N H locs → lv_has ls 3 [(0, .ref a), (1, .int x1h4), (2, .int x2h4)] →
      W p l e ({ frames := 1, cells := 0, slots := 0, locals := 21 } : Room) s m [Value.ref a].toArray below meth c H locs 0 0 (MQ below (qQ D M0 N (qRet M0 N (.int R))) [Value.ref a].toArray s 0 0 (qA M0 N)) (F0 m 4 ls []) := by
    intro n4
    induction n4 with
    | zero => intro x1h4 x2h4 hm; exact absurd hm (Nat.not_lt_zero _)
    | succ n4 ih4 =>
      intro x1h4 x2h4 hm4 hR H locs ls  hI hl
      rw [s_X7_arrivedLoads_L4] at hR
      refine lv_iload_n hx hb dX7_arrivedLoads_4 rfl (lv_at hl 2 rfl) ?_
      refine lv_aload_n hx hb dX7_arrivedLoads_5 rfl (lv_at hl 0 rfl) ?_
      refine q_get hx hb hg in_X7 hown hK hI hL0.1 rfl 4 (by decide) (hg _ wf_X7_24) (fun _ h9 => h9) rfl dX7_arrivedLoads_6 ?_
      refine lv_icmp_ge (tgt := 45) hx hb dX7_arrivedLoads_9 (by decide) (fun c1 => ?_) (fun c1 => ?_)
      · rw [if_pos c1] at hR
        refine lv_iload_n hx hb dX7_arrivedLoads_45 rfl (lv_at hl 1 rfl) ?_
        exact q_iret hx hb hret hlk hN hI (by subst hR; exact ⟨rfl, rfl, rfl⟩) dX7_arrivedLoads_46
      · rw [if_neg c1] at hR
        refine lv_iload_n hx hb dX7_arrivedLoads_12 rfl (lv_at hl 1 rfl) ?_
        refine lv_aload_n hx hb dX7_arrivedLoads_13 rfl (lv_at hl 0 rfl) ?_
        refine q_get hx hb hg in_X7 hown hK hI hL0.1 rfl 3 (by decide) (hg _ wf_X7_21) (fun _ h9 => h9) rfl dX7_arrivedLoads_14 ?_
        refine lv_iload_n hx hb dX7_arrivedLoads_17 rfl (lv_at hl 2 rfl) ?_
        refine q_goR (q_runSN (As := [.ref (a + 4), .int x2h4]) (rest := [.int x1h4]) hx hb hml hown hg (c_X10_at l D cs hL0.2.2.2.2 x2h4) v_X10_at (hK.2 _ (List.mem_of_getElem? (i := 41) rfl)) rfl rfl ⟨Nat.le_of_ble_eq_true rfl, Nat.le_of_ble_eq_true rfl⟩ hI hK hl.1 rfl rfl (Nat.le_of_ble_eq_true rfl) dX7_arrivedLoads_18 ⟨Nat.le_of_ble_eq_true rfl, Nat.le_of_ble_eq_true rfl⟩) hI (fun H locs hI => ?_)
        refine lv_iconst (v := 1) hx hb dX7_arrivedLoads_21 (by decide) ?_
        refine lv_icmp_ne (tgt := 36) hx hb dX7_arrivedLoads_22 (by decide) (fun c2 => ?_) (fun c2 => ?_)
        · rw [if_neg c2] at hR
          refine lv_iconst (v := 0) hx hb dX7_arrivedLoads_36 (by decide) ?_
          refine lv_iadd hx hb dX7_arrivedLoads_37 ?_
          refine lv_istore_n (lv' := [(1, .int (x1h4 + 0)), (0, .ref a), (2, .int x2h4)]) hx hb dX7_arrivedLoads_38 rfl hl (by decide) rfl (fun ls hl => ?_)
          refine lv_iinc (v := x2h4 + 1) (lv' := [(2, .int (x2h4 + 1)), (1, .int (x1h4 + 0)), (0, .ref a)]) hx hb dX7_arrivedLoads_39 hl (k := 2) rfl rfl (by decide) rfl (fun ls hl => ?_)
          refine lv_goto (tgt := 4) hx hb dX7_arrivedLoads_42 (by decide) ?_
          exact ih4 (x1h4 + 0) (x2h4 + 1) (q_mu c1 hm4) hR _ _ _  hI (lv_sub hl [2, 1, 0] rfl)
        · rw [if_pos c2] at hR
          refine lv_aload_n hx hb dX7_arrivedLoads_25 rfl (lv_at hl 0 rfl) ?_
          refine q_get hx hb hg in_X7 hown hK hI hL0.1 rfl 1 (by decide) (hg _ wf_X7_15) (fun _ h9 => h9) rfl dX7_arrivedLoads_26 ?_
          refine lv_iload_n hx hb dX7_arrivedLoads_29 rfl (lv_at hl 2 rfl) ?_
          refine q_goR (q_runSN (As := [.ref (a + 2), .int x2h4]) (rest := [.int x1h4]) hx hb hml hown hg (c_X10_at l D cs hL0.2.2.1 x2h4) v_X10_at (hK.2 _ (List.mem_of_getElem? (i := 41) rfl)) rfl rfl ⟨Nat.le_of_ble_eq_true rfl, Nat.le_of_ble_eq_true rfl⟩ hI hK hl.1 rfl rfl (Nat.le_of_ble_eq_true rfl) dX7_arrivedLoads_30 ⟨Nat.le_of_ble_eq_true rfl, Nat.le_of_ble_eq_true rfl⟩) hI (fun H locs hI => ?_)
          refine lv_goto (tgt := 37) hx hb dX7_arrivedLoads_33 (by decide) ?_
          refine lv_iadd hx hb dX7_arrivedLoads_37 ?_
          refine lv_istore_n (lv' := [(1, .int (x1h4 + (rowAt v.2.1 x2h4))), (0, .ref a), (2, .int x2h4)]) hx hb dX7_arrivedLoads_38 rfl hl (by decide) rfl (fun ls hl => ?_)
          refine lv_iinc (v := x2h4 + 1) (lv' := [(2, .int (x2h4 + 1)), (1, .int (x1h4 + (rowAt v.2.1 x2h4))), (0, .ref a)]) hx hb dX7_arrivedLoads_39 hl (k := 2) rfl rfl (by decide) rfl (fun ls hl => ?_)
          refine lv_goto (tgt := 4) hx hb dX7_arrivedLoads_42 (by decide) ?_
          exact ih4 (x1h4 + (rowAt v.2.1 x2h4)) (x2h4 + 1) (q_mu c1 hm4) hR _ _ _  hI (lv_sub hl [2, 1, 0] rfl)
  exact loop4 _ 0 0 (q_fuel _) hR _ _ _  hI (lv_sub hl [2, 1, 0] rfl)
def s_X7_countAt_L4 (v : qSV) (p1 : Int32) : Nat → Int32 → Int32 → Int32
  | 0, _, _ => default
  | n + 1, x2h4, x3h4 => (if v.2.2.2.2 ≤ x3h4 then x2h4 else (if (qbi (s_X7_isUnderway v x3h4)) = 0 then (s_X7_countAt_L4 v p1 n (x2h4 + 0) (x3h4 + 1)) else (if (s_X7_placeAt v x3h4) = p1 then (s_X7_countAt_L4 v p1 n (x2h4 + 1) (x3h4 + 1)) else (s_X7_countAt_L4 v p1 n (x2h4 + 0) (x3h4 + 1)))))
def s_X7_countAt (v : qSV) (p1 : Int32) : Int32 := (s_X7_countAt_L4 v p1 (v.2.2.2.2.toInt.toNat + 1) 0 0)
set_option maxHeartbeats 4000000 in
set_option maxRecDepth 20000 in
theorem c_X7_countAt (l : Launch) (D : va_G) (cs : qC) {M0 : qM} {N a : Nat} {v : qSV} (hL0 : qLS cs M0 a v) (p1 : Int32) :
    qMet l D cs yX7_countAt (qws yX7_countAt cX7_countAt 4 (some .int)) ({ frames := 2, cells := 0, slots := 0, locals := 42 } : Room) M0 N [.ref a, .int p1] (qRet M0 N (.int (s_X7_countAt v p1))) 0 0 := by
  obtain ⟨R, hR⟩ : ∃ R, s_X7_countAt v p1 = R := ⟨_, rfl⟩
  rw [hR]
  rw [s_X7_countAt] at hR
  refine q_head (by decide +kernel) ?_ (Nat.le_of_ble_eq_true rfl)
  intro p e s m below meth c ls hx hb hret hlk hml hown hnm hg hK hN hI hl
  have hl : lv_has ls 4 [(0, .ref a), (1, .int p1)] := hl
  refine lv_iconst (v := 0) hx hb dX7_countAt_0 (by decide) ?_
  refine lv_istore_n (lv' := [(2, .int 0), (0, .ref a), (1, .int p1)]) hx hb dX7_countAt_1 rfl hl (by decide) rfl (fun ls hl => ?_)
  refine lv_iconst (v := 0) hx hb dX7_countAt_2 (by decide) ?_
  refine lv_istore_n (lv' := [(3, .int 0), (2, .int 0), (0, .ref a), (1, .int p1)]) hx hb dX7_countAt_3 rfl hl (by decide) rfl (fun ls hl => ?_)
  have loop4 : ∀ (n4 : Nat) (x2h4 : Int32) (x3h4 : Int32), qmu v.2.2.2.2 x3h4 < n4 → s_X7_countAt_L4 v p1 n4 x2h4 x3h4 = R → ∀ (H : Heap) (locs : List Loc) (ls : Array Slot), qI D M0 s.heap M0 N H locs → lv_has ls 4 [(0, .ref a), (1, .int p1), (2, .int x2h4), (3, .int x3h4)] →
      W p l e ({ frames := 2, cells := 0, slots := 0, locals := 42 } : Room) s m [Value.ref a, Value.int p1].toArray below meth c H locs 0 0 (MQ below (qQ D M0 N (qRet M0 N (.int R))) [Value.ref a, Value.int p1].toArray s 0 0 (qA M0 N)) (F0 m 4 ls []) := by
    intro n4
    induction n4 with
    | zero => intro x2h4 x3h4 hm; exact absurd hm (Nat.not_lt_zero _)
    | succ n4 ih4 =>
      intro x2h4 x3h4 hm4 hR H locs ls  hI hl
      rw [s_X7_countAt_L4] at hR
      refine lv_iload_n hx hb dX7_countAt_4 rfl (lv_at hl 3 rfl) ?_
      refine lv_aload_n hx hb dX7_countAt_5 rfl (lv_at hl 0 rfl) ?_
      refine q_get hx hb hg in_X7 hown hK hI hL0.1 rfl 4 (by decide) (hg _ wf_X7_24) (fun _ h9 => h9) rfl dX7_countAt_6 ?_
      refine lv_icmp_ge (tgt := 43) hx hb dX7_countAt_9 (by decide) (fun c1 => ?_) (fun c1 => ?_)
      · rw [if_pos c1] at hR
        refine lv_iload_n hx hb dX7_countAt_43 rfl (lv_at hl 2 rfl) ?_
        exact q_iret hx hb hret hlk hN hI (by subst hR; exact ⟨rfl, rfl, rfl⟩) dX7_countAt_44
      · rw [if_neg c1] at hR
        refine lv_iload_n hx hb dX7_countAt_12 rfl (lv_at hl 2 rfl) ?_
        refine lv_aload_n hx hb dX7_countAt_13 rfl (lv_at hl 0 rfl) ?_
        refine lv_iload_n hx hb dX7_countAt_14 rfl (lv_at hl 3 rfl) ?_
        refine q_goR (q_runV (As := [.int x3h4]) (rest := [.int x2h4]) hx hb hml hown hg (c_X7_isUnderway l D cs hL0 x3h4) v_X7_isUnderway wl_X7_48 rfl rfl ⟨Nat.le_of_ble_eq_true rfl, Nat.le_of_ble_eq_true rfl⟩ hI hK 8 hL0.1 rfl hl.1 rfl rfl (Nat.le_of_ble_eq_true rfl) dX7_countAt_15 ⟨Nat.le_of_ble_eq_true rfl, Nat.le_of_ble_eq_true rfl⟩) hI (fun H locs hI => ?_)
        refine lv_if_eq (tgt := 34) hx hb dX7_countAt_18 (by decide) (fun c2 => ?_) (fun c2 => ?_)
        · rw [if_pos c2] at hR
          refine lv_iconst (v := 0) hx hb dX7_countAt_34 (by decide) ?_
          refine lv_iadd hx hb dX7_countAt_35 ?_
          refine lv_istore_n (lv' := [(2, .int (x2h4 + 0)), (0, .ref a), (1, .int p1), (3, .int x3h4)]) hx hb dX7_countAt_36 rfl hl (by decide) rfl (fun ls hl => ?_)
          refine lv_iinc (v := x3h4 + 1) (lv' := [(3, .int (x3h4 + 1)), (2, .int (x2h4 + 0)), (0, .ref a), (1, .int p1)]) hx hb dX7_countAt_37 hl (k := 3) rfl rfl (by decide) rfl (fun ls hl => ?_)
          refine lv_goto (tgt := 4) hx hb dX7_countAt_40 (by decide) ?_
          exact ih4 (x2h4 + 0) (x3h4 + 1) (q_mu c1 hm4) hR _ _ _  hI (lv_sub hl [2, 3, 1, 0] rfl)
        · rw [if_neg c2] at hR
          refine lv_aload_n hx hb dX7_countAt_21 rfl (lv_at hl 0 rfl) ?_
          refine lv_iload_n hx hb dX7_countAt_22 rfl (lv_at hl 3 rfl) ?_
          refine q_goR (q_runV (As := [.int x3h4]) (rest := [.int x2h4]) hx hb hml hown hg (c_X7_placeAt l D cs hL0 x3h4) v_X7_placeAt wl_X7_52 rfl rfl ⟨Nat.le_of_ble_eq_true rfl, Nat.le_of_ble_eq_true rfl⟩ hI hK 8 hL0.1 rfl hl.1 rfl rfl (Nat.le_of_ble_eq_true rfl) dX7_countAt_23 ⟨Nat.le_of_ble_eq_true rfl, Nat.le_of_ble_eq_true rfl⟩) hI (fun H locs hI => ?_)
          refine lv_iload_n hx hb dX7_countAt_26 rfl (lv_at hl 1 rfl) ?_
          refine lv_icmp_ne (tgt := 34) hx hb dX7_countAt_27 (by decide) (fun c3 => ?_) (fun c3 => ?_)
          · rw [if_neg c3] at hR
            refine lv_iconst (v := 0) hx hb dX7_countAt_34 (by decide) ?_
            refine lv_iadd hx hb dX7_countAt_35 ?_
            refine lv_istore_n (lv' := [(2, .int (x2h4 + 0)), (0, .ref a), (1, .int p1), (3, .int x3h4)]) hx hb dX7_countAt_36 rfl hl (by decide) rfl (fun ls hl => ?_)
            refine lv_iinc (v := x3h4 + 1) (lv' := [(3, .int (x3h4 + 1)), (2, .int (x2h4 + 0)), (0, .ref a), (1, .int p1)]) hx hb dX7_countAt_37 hl (k := 3) rfl rfl (by decide) rfl (fun ls hl => ?_)
            refine lv_goto (tgt := 4) hx hb dX7_countAt_40 (by decide) ?_
            exact ih4 (x2h4 + 0) (x3h4 + 1) (q_mu c1 hm4) hR _ _ _  hI (lv_sub hl [2, 3, 1, 0] rfl)
          · rw [if_pos c3] at hR
            refine lv_iconst (v := 1) hx hb dX7_countAt_30 (by decide) ?_
            refine lv_goto (tgt := 35) hx hb dX7_countAt_31 (by decide) ?_
            refine lv_iadd hx hb dX7_countAt_35 ?_
            refine lv_istore_n (lv' := [(2, .int (x2h4 + 1)), (0, .ref a), (1, .int p1), (3, .int x3h4)]) hx hb dX7_countAt_36 rfl hl (by decide) rfl (fun ls hl => ?_)
            refine lv_iinc (v := x3h4 + 1) (lv' := [(3, .int (x3h4 + 1)), (2, .int (x2h4 + 1)), (0, .ref a), (1, .int p1)]) hx hb dX7_countAt_37 hl (k := 3) rfl rfl (by decide) rfl (fun ls hl => ?_)
            refine lv_goto (tgt := 4) hx hb dX7_countAt_40 (by decide) ?_
            exact ih4 (x2h4 + 1) (x3h4 + 1) (q_mu c1 hm4) hR _ _ _  hI (lv_sub hl [2, 3, 1, 0] rfl)
  exact loop4 _ 0 0 (q_fuel _) hR _ _ _  hI (lv_sub hl [2, 3, 1, 0] rfl)
def s_X7_tell (v : qSV) (p1 : Int32) (p2 : Int32) : Int32 := (if p1 < 0 then (-1) else (if p1 < v.2.2.2.2 then (if p2 = 0 then rowAt v.1 p1 else (if p2 = 1 then rowAt v.2.1 p1 else (if p2 = 2 then rowAt v.2.2.1 p1 else (if p2 = 3 then rowAt v.2.2.2.1 p1 else (-2))))) else (-1)))
set_option maxHeartbeats 4000000 in
set_option maxRecDepth 20000 in
theorem c_X7_tell (l : Launch) (D : va_G) (cs : qC) {M0 : qM} {N a : Nat} {v : qSV} (hL0 : qLS cs M0 a v) (p1 : Int32) (p2 : Int32) :
    qMet l D cs yX7_tell (qws yX7_tell cX7_tell 3 (some .int)) ({ frames := 1, cells := 0, slots := 0, locals := 21 } : Room) M0 N [.ref a, .int p1, .int p2] (qRet M0 N (.int (s_X7_tell v p1 p2))) 0 0 := by
  obtain ⟨R, hR⟩ : ∃ R, s_X7_tell v p1 p2 = R := ⟨_, rfl⟩
  rw [hR]
  rw [s_X7_tell] at hR
  refine q_head (by decide +kernel) ?_ (Nat.le_of_ble_eq_true rfl)
  intro p e s m below meth c ls hx hb hret hlk hml hown hnm hg hK hN hI hl
  have hl : lv_has ls 3 [(0, .ref a), (1, .int p1), (2, .int p2)] := hl
  refine lv_iload_n hx hb dX7_tell_0 rfl (lv_at hl 1 rfl) ?_
  refine lv_if_lt (tgt := 12) hx hb dX7_tell_1 (by decide) (fun c1 => ?_) (fun c1 => ?_)
  · rw [if_pos c1] at hR
    refine lv_iconst (v := (-1)) hx hb dX7_tell_12 (by decide) ?_
    exact q_iret hx hb hret hlk hN hI (by subst hR; exact ⟨rfl, rfl, rfl⟩) dX7_tell_13
  · rw [if_neg c1] at hR
    refine lv_iload_n hx hb dX7_tell_4 rfl (lv_at hl 1 rfl) ?_
    refine lv_aload_n hx hb dX7_tell_5 rfl (lv_at hl 0 rfl) ?_
    refine q_get hx hb hg in_X7 hown hK hI hL0.1 rfl 4 (by decide) (hg _ wf_X7_24) (fun _ h9 => h9) rfl dX7_tell_6 ?_
    refine lv_icmp_lt (tgt := 14) hx hb dX7_tell_9 (by decide) (fun c2 => ?_) (fun c2 => ?_)
    · rw [if_pos c2] at hR
      refine lv_iload_n hx hb dX7_tell_14 rfl (lv_at hl 2 rfl) ?_
      by_cases h3 : p2 = 0
      · rw [if_pos h3] at hR
        refine lv_tableIn (off := 29) (tgt := 44) hx hb dX7_tell_15 (by rw [h3]; decide) (by rw [h3]; decide) (by rw [h3]; decide) (by decide) ?_
        refine lv_aload_n hx hb dX7_tell_44 rfl (lv_at hl 0 rfl) ?_
        refine q_get hx hb hg in_X7 hown hK hI hL0.1 rfl 0 (by decide) (hg _ wf_X7_9) (fun _ h9 => h9) rfl dX7_tell_45 ?_
        refine lv_iload_n hx hb dX7_tell_48 rfl (lv_at hl 1 rfl) ?_
        refine q_goR (q_runSN (As := [.ref (a + 1), .int p1]) (rest := []) hx hb hml hown hg (c_X10_at l D cs hL0.2.1 p1) v_X10_at (hK.2 _ (List.mem_of_getElem? (i := 41) rfl)) rfl rfl ⟨Nat.le_of_ble_eq_true rfl, Nat.le_of_ble_eq_true rfl⟩ hI hK hl.1 rfl rfl (Nat.le_of_ble_eq_true rfl) dX7_tell_49 ⟨Nat.le_of_ble_eq_true rfl, Nat.le_of_ble_eq_true rfl⟩) hI (fun H locs hI => ?_)
        refine lv_goto (tgt := 90) hx hb dX7_tell_52 (by decide) ?_
        exact q_iret hx hb hret hlk hN hI (by subst hR; exact ⟨rfl, rfl, rfl⟩) dX7_tell_90
      rw [if_neg h3] at hR
      by_cases h4 : p2 = 1
      · rw [if_pos h4] at hR
        refine lv_tableIn (off := 40) (tgt := 55) hx hb dX7_tell_15 (by rw [h4]; decide) (by rw [h4]; decide) (by rw [h4]; decide) (by decide) ?_
        refine lv_aload_n hx hb dX7_tell_55 rfl (lv_at hl 0 rfl) ?_
        refine q_get hx hb hg in_X7 hown hK hI hL0.1 rfl 1 (by decide) (hg _ wf_X7_15) (fun _ h9 => h9) rfl dX7_tell_56 ?_
        refine lv_iload_n hx hb dX7_tell_59 rfl (lv_at hl 1 rfl) ?_
        refine q_goR (q_runSN (As := [.ref (a + 2), .int p1]) (rest := []) hx hb hml hown hg (c_X10_at l D cs hL0.2.2.1 p1) v_X10_at (hK.2 _ (List.mem_of_getElem? (i := 41) rfl)) rfl rfl ⟨Nat.le_of_ble_eq_true rfl, Nat.le_of_ble_eq_true rfl⟩ hI hK hl.1 rfl rfl (Nat.le_of_ble_eq_true rfl) dX7_tell_60 ⟨Nat.le_of_ble_eq_true rfl, Nat.le_of_ble_eq_true rfl⟩) hI (fun H locs hI => ?_)
        refine lv_goto (tgt := 90) hx hb dX7_tell_63 (by decide) ?_
        exact q_iret hx hb hret hlk hN hI (by subst hR; exact ⟨rfl, rfl, rfl⟩) dX7_tell_90
      rw [if_neg h4] at hR
      by_cases h5 : p2 = 2
      · rw [if_pos h5] at hR
        refine lv_tableIn (off := 51) (tgt := 66) hx hb dX7_tell_15 (by rw [h5]; decide) (by rw [h5]; decide) (by rw [h5]; decide) (by decide) ?_
        refine lv_aload_n hx hb dX7_tell_66 rfl (lv_at hl 0 rfl) ?_
        refine q_get hx hb hg in_X7 hown hK hI hL0.1 rfl 2 (by decide) (hg _ wf_X7_18) (fun _ h9 => h9) rfl dX7_tell_67 ?_
        refine lv_iload_n hx hb dX7_tell_70 rfl (lv_at hl 1 rfl) ?_
        refine q_goR (q_runSN (As := [.ref (a + 3), .int p1]) (rest := []) hx hb hml hown hg (c_X10_at l D cs hL0.2.2.2.1 p1) v_X10_at (hK.2 _ (List.mem_of_getElem? (i := 41) rfl)) rfl rfl ⟨Nat.le_of_ble_eq_true rfl, Nat.le_of_ble_eq_true rfl⟩ hI hK hl.1 rfl rfl (Nat.le_of_ble_eq_true rfl) dX7_tell_71 ⟨Nat.le_of_ble_eq_true rfl, Nat.le_of_ble_eq_true rfl⟩) hI (fun H locs hI => ?_)
        refine lv_goto (tgt := 90) hx hb dX7_tell_74 (by decide) ?_
        exact q_iret hx hb hret hlk hN hI (by subst hR; exact ⟨rfl, rfl, rfl⟩) dX7_tell_90
      rw [if_neg h5] at hR
      by_cases h6 : p2 = 3
      · rw [if_pos h6] at hR
        refine lv_tableIn (off := 62) (tgt := 77) hx hb dX7_tell_15 (by rw [h6]; decide) (by rw [h6]; decide) (by rw [h6]; decide) (by decide) ?_
        refine lv_aload_n hx hb dX7_tell_77 rfl (lv_at hl 0 rfl) ?_
        refine q_get hx hb hg in_X7 hown hK hI hL0.1 rfl 3 (by decide) (hg _ wf_X7_21) (fun _ h9 => h9) rfl dX7_tell_78 ?_
        refine lv_iload_n hx hb dX7_tell_81 rfl (lv_at hl 1 rfl) ?_
        refine q_goR (q_runSN (As := [.ref (a + 4), .int p1]) (rest := []) hx hb hml hown hg (c_X10_at l D cs hL0.2.2.2.2 p1) v_X10_at (hK.2 _ (List.mem_of_getElem? (i := 41) rfl)) rfl rfl ⟨Nat.le_of_ble_eq_true rfl, Nat.le_of_ble_eq_true rfl⟩ hI hK hl.1 rfl rfl (Nat.le_of_ble_eq_true rfl) dX7_tell_82 ⟨Nat.le_of_ble_eq_true rfl, Nat.le_of_ble_eq_true rfl⟩) hI (fun H locs hI => ?_)
        refine lv_goto (tgt := 90) hx hb dX7_tell_85 (by decide) ?_
        exact q_iret hx hb hret hlk hN hI (by subst hR; exact ⟨rfl, rfl, rfl⟩) dX7_tell_90
      rw [if_neg h6] at hR
      refine lv_tableOut (tgt := 88) hx hb dX7_tell_15 (q_tbl (n := 3) (by decide) (fun j hj => by
        have hj2 : j = 0 ∨ j = 1 ∨ j = 2 ∨ j = 3 := by omega
        rcases hj2 with rfl | rfl | rfl | rfl
        · exact h3
        · exact h4
        · exact h5
        · exact h6)) (by decide) ?_
      refine lv_bipush (v := (-2)) hx hb dX7_tell_88 (by decide) ?_
      exact q_iret hx hb hret hlk hN hI (by subst hR; exact ⟨rfl, rfl, rfl⟩) dX7_tell_90
    · rw [if_neg c2] at hR
      refine lv_iconst (v := (-1)) hx hb dX7_tell_12 (by decide) ?_
      exact q_iret hx hb hret hlk hN hI (by subst hR; exact ⟨rfl, rfl, rfl⟩) dX7_tell_13
