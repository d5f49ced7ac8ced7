def s_X1_takeOver (v : qBV) (u : qBV)  : qBV := (u.1, u.2.1, u.2.2)
set_option maxHeartbeats 4000000 in
set_option maxRecDepth 20000 in
theorem c_X1_takeOver (l : Launch) (D : va_G) (cs : qC) {M0 : qM} {N a b : Nat} {v : qBV} {u : qBV} (hL0 : qLB cs M0 a v) (hL1 : qLB cs M0 b u) (hd0 : a + 3 ≤ b ∨ b + 3 ≤ a) :
    qMet l D cs yX1_takeOver (qws yX1_takeOver cX1_takeOver 2 none) ({ frames := 2, cells := 0, slots := 0, locals := 43 } : Room) M0 N [.ref a, .ref b] (qMod N none (fun M' => qLB cs M' a (s_X1_takeOver v u) ∧ qFr (qIn a 3) M0 M')) 0 0 := by
  obtain ⟨R, hR⟩ : ∃ R, s_X1_takeOver v u = R := ⟨_, rfl⟩
  rw [hR]
  rw [s_X1_takeOver] at hR
  refine q_head (by decide +kernel) ?_ (Nat.le_of_ble_eq_true rfl)
  intro p e s m below meth c ls hx hb hret hlk hml hown hnm hg hK hN hI hl
  have hl : lv_has ls 2 [(0, .ref a), (1, .ref b)] := hl
  have hS : qFr (qIn a 3) M0 M0 := qFr.rf
  refine lv_aload_n hx hb dX1_takeOver_0 rfl (lv_at hl 1 rfl) ?_
  refine q_get hx hb hg in_X1 hown hK hI hL1.1 rfl 0 (by decide) (hg _ wf_X1_9) (fun _ h9 => h9) rfl dX1_takeOver_1 ?_
  refine lv_aload_n hx hb dX1_takeOver_4 rfl (lv_at hl 0 rfl) ?_
  refine q_get hx hb hg in_X1 hown hK hI hL0.1 rfl 0 (by decide) (hg _ wf_X1_9) (fun _ h9 => h9) rfl dX1_takeOver_5 ?_
  refine q_goN (q_runSN (As := [.ref (b + 1), .ref (a + 1)]) (rest := []) hx hb hml hown hg (c_X10_copyRow l D cs hL1.2.1 hL0.2.1 (by omega)) v_X10_copyRow (hK.2 _ (List.mem_of_getElem? (i := 29) rfl)) rfl rfl ⟨Nat.le_of_ble_eq_true rfl, Nat.le_of_ble_eq_true rfl⟩ hI hK hl.1 rfl rfl (Nat.le_of_ble_eq_true rfl) dX1_takeOver_8 ⟨Nat.le_of_ble_eq_true rfl, Nat.le_of_ble_eq_true rfl⟩) hI (fun M H locs hp hI => ?_)
  obtain ⟨hn1, hF⟩ := hp
  have hn := hn1
  have hn : qLB cs M a (u.1, v.2.1, v.2.2) := qLB.s0 (v := v) hL0 hn (qFr.rf.tr hF (fun q hq => by omega))
  have hL0 := hn
  have hL1 := hL1.fr hF (fun q h1 h2 hq => by omega)
  have hS := hS.tr hF (fun q hq => by omega)
  refine lv_aload_n hx hb dX1_takeOver_11 rfl (lv_at hl 1 rfl) ?_
  refine q_get hx hb hg in_X1 hown hK hI hL1.1 rfl 1 (by decide) (hg _ wf_X1_15) (fun _ h9 => h9) rfl dX1_takeOver_12 ?_
  refine lv_aload_n hx hb dX1_takeOver_15 rfl (lv_at hl 0 rfl) ?_
  refine q_get hx hb hg in_X1 hown hK hI hL0.1 rfl 1 (by decide) (hg _ wf_X1_15) (fun _ h9 => h9) rfl dX1_takeOver_16 ?_
  refine q_goN (q_runSN (As := [.ref (b + 2), .ref (a + 2)]) (rest := []) hx hb hml hown hg (c_X10_copyRow l D cs hL1.2.2 hL0.2.2 (by omega)) v_X10_copyRow (hK.2 _ (List.mem_of_getElem? (i := 29) rfl)) rfl rfl ⟨Nat.le_of_ble_eq_true rfl, Nat.le_of_ble_eq_true rfl⟩ hI hK hl.1 rfl rfl (Nat.le_of_ble_eq_true rfl) dX1_takeOver_19 ⟨Nat.le_of_ble_eq_true rfl, Nat.le_of_ble_eq_true rfl⟩) hI (fun M H locs hp hI => ?_)
  obtain ⟨hn1, hF⟩ := hp
  have hn := hn1
  have hn : qLB cs M a (u.1, u.2.1, v.2.2) := qLB.s1 (v := (u.1, v.2.1, v.2.2)) hL0 hn (qFr.rf.tr hF (fun q hq => by omega))
  have hL0 := hn
  have hL1 := hL1.fr hF (fun q h1 h2 hq => by omega)
  have hS := hS.tr hF (fun q hq => by omega)
  refine lv_aload_n hx hb dX1_takeOver_22 rfl (lv_at hl 0 rfl) ?_
  refine lv_aload_n hx hb dX1_takeOver_23 rfl (lv_at hl 1 rfl) ?_
  refine q_get hx hb hg in_X1 hown hK hI hL1.1 rfl 2 (by decide) (hg _ wf_X1_18) (fun _ h9 => h9) rfl dX1_takeOver_24 ?_
  have hn := qLB.i2 u.2.2 hL0
  refine q_put (v := .int u.2.2) hx hb hg in_X1 tyX1_ok nmX1 hown hK hI hL0.1 rfl 2 (by decide) (hg _ wf_X1_18) (fun _ h9 => h9) rfl rfl rfl (Nat.le_of_ble_eq_true rfl) dX1_takeOver_27 (fun H locs hI => ?_)
  obtain ⟨M, hn, hF, hI⟩ : ∃ Mx : qM, qLB cs Mx a (u.1, u.2.1, u.2.2) ∧ qFr (qIn a 1) M Mx ∧ qI D M0 s.heap Mx N H locs := ⟨_, hn, qFr.up (by decide), hI⟩
  have hL0 := hn
  have hL1 := hL1.fr hF (fun q h1 h2 hq => by omega)
  have hS := hS.tr hF (fun q hq => by omega)
  exact q_vret (st := []) hx hb hret hlk hN hI (by subst hR; exact ⟨rfl, ⟨hL0, hS⟩, rfl⟩) dX1_takeOver_30
def s_X8_takeOver (v : qTV) (u : qTV)  : qTV := (u.1, u.2.1, u.2.2.1, u.2.2.2)
set_option maxHeartbeats 4000000 in
set_option maxRecDepth 20000 in
theorem c_X8_takeOver (l : Launch) (D : va_G) (cs : qC) {M0 : qM} {N a b : Nat} {v : qTV} {u : qTV} (hL0 : qLT cs M0 a v) (hL1 : qLT cs M0 b u) (hd0 : a + 4 ≤ b ∨ b + 4 ≤ a) :
    qMet l D cs yX8_takeOver (qws yX8_takeOver cX8_takeOver 2 none) ({ frames := 2, cells := 0, slots := 0, locals := 43 } : Room) M0 N [.ref a, .ref b] (qMod N none (fun M' => qLT cs M' a (s_X8_takeOver v u) ∧ qFr (qIn a 4) M0 M')) 0 0 := by
  obtain ⟨R, hR⟩ : ∃ R, s_X8_takeOver v u = R := ⟨_, rfl⟩
  rw [hR]
  rw [s_X8_takeOver] at hR
  refine q_head (by decide +kernel) ?_ (Nat.le_of_ble_eq_true rfl)
  intro p e s m below meth c ls hx hb hret hlk hml hown hnm hg hK hN hI hl
  have hl : lv_has ls 2 [(0, .ref a), (1, .ref b)] := hl
  have hS : qFr (qIn a 4) M0 M0 := qFr.rf
  refine lv_aload_n hx hb dX8_takeOver_0 rfl (lv_at hl 1 rfl) ?_
  refine q_get hx hb hg in_X8 hown hK hI hL1.1 rfl 0 (by decide) (hg _ wf_X8_9) (fun _ h9 => h9) rfl dX8_takeOver_1 ?_
  refine lv_aload_n hx hb dX8_takeOver_4 rfl (lv_at hl 0 rfl) ?_
  refine q_get hx hb hg in_X8 hown hK hI hL0.1 rfl 0 (by decide) (hg _ wf_X8_9) (fun _ h9 => h9) rfl dX8_takeOver_5 ?_
  refine q_goN (q_runSN (As := [.ref (b + 1), .ref (a + 1)]) (rest := []) hx hb hml hown hg (c_X10_copyRow l D cs hL1.2.1 hL0.2.1 (by omega)) v_X10_copyRow (hK.2 _ (List.mem_of_getElem? (i := 30) rfl)) rfl rfl ⟨Nat.le_of_ble_eq_true rfl, Nat.le_of_ble_eq_true rfl⟩ hI hK hl.1 rfl rfl (Nat.le_of_ble_eq_true rfl) dX8_takeOver_8 ⟨Nat.le_of_ble_eq_true rfl, Nat.le_of_ble_eq_true rfl⟩) hI (fun M H locs hp hI => ?_)
  obtain ⟨hn1, hF⟩ := hp
  have hn := hn1
  have hn : qLT cs M a (u.1, v.2.1, v.2.2.1, v.2.2.2) := qLT.s0 (v := v) hL0 hn (qFr.rf.tr hF (fun q hq => by omega))
  have hL0 := hn
  have hL1 := hL1.fr hF (fun q h1 h2 hq => by omega)
  have hS := hS.tr hF (fun q hq => by omega)
  refine lv_aload_n hx hb dX8_takeOver_11 rfl (lv_at hl 1 rfl) ?_
  refine q_get hx hb hg in_X8 hown hK hI hL1.1 rfl 1 (by decide) (hg _ wf_X8_15) (fun _ h9 => h9) rfl dX8_takeOver_12 ?_
  refine lv_aload_n hx hb dX8_takeOver_15 rfl (lv_at hl 0 rfl) ?_
  refine q_get hx hb hg in_X8 hown hK hI hL0.1 rfl 1 (by decide) (hg _ wf_X8_15) (fun _ h9 => h9) rfl dX8_takeOver_16 ?_
  refine q_goN (q_runSN (As := [.ref (b + 2), .ref (a + 2)]) (rest := []) hx hb hml hown hg (c_X10_copyRow l D cs hL1.2.2.1 hL0.2.2.1 (by omega)) v_X10_copyRow (hK.2 _ (List.mem_of_getElem? (i := 30) rfl)) rfl rfl ⟨Nat.le_of_ble_eq_true rfl, Nat.le_of_ble_eq_true rfl⟩ hI hK hl.1 rfl rfl (Nat.le_of_ble_eq_true rfl) dX8_takeOver_19 ⟨Nat.le_of_ble_eq_true rfl, Nat.le_of_ble_eq_true rfl⟩) hI (fun M H locs hp hI => ?_)
  obtain ⟨hn1, hF⟩ := hp
  have hn := hn1
  have hn : qLT cs M a (u.1, u.2.1, v.2.2.1, v.2.2.2) := qLT.s1 (v := (u.1, v.2.1, v.2.2.1, v.2.2.2)) hL0 hn (qFr.rf.tr hF (fun q hq => by omega))
  have hL0 := hn
  have hL1 := hL1.fr hF (fun q h1 h2 hq => by omega)
  have hS := hS.tr hF (fun q hq => by omega)
  refine lv_aload_n hx hb dX8_takeOver_22 rfl (lv_at hl 1 rfl) ?_
  refine q_get hx hb hg in_X8 hown hK hI hL1.1 rfl 2 (by decide) (hg _ wf_X8_18) (fun _ h9 => h9) rfl dX8_takeOver_23 ?_
  refine lv_aload_n hx hb dX8_takeOver_26 rfl (lv_at hl 0 rfl) ?_
  refine q_get hx hb hg in_X8 hown hK hI hL0.1 rfl 2 (by decide) (hg _ wf_X8_18) (fun _ h9 => h9) rfl dX8_takeOver_27 ?_
  refine q_goN (q_runSN (As := [.ref (b + 3), .ref (a + 3)]) (rest := []) hx hb hml hown hg (c_X10_copyRow l D cs hL1.2.2.2 hL0.2.2.2 (by omega)) v_X10_copyRow (hK.2 _ (List.mem_of_getElem? (i := 30) rfl)) rfl rfl ⟨Nat.le_of_ble_eq_true rfl, Nat.le_of_ble_eq_true rfl⟩ hI hK hl.1 rfl rfl (Nat.le_of_ble_eq_true rfl) dX8_takeOver_30 ⟨Nat.le_of_ble_eq_true rfl, Nat.le_of_ble_eq_true rfl⟩) hI (fun M H locs hp hI => ?_)
  obtain ⟨hn1, hF⟩ := hp
  have hn := hn1
  have hn : qLT cs M a (u.1, u.2.1, u.2.2.1, v.2.2.2) := qLT.s2 (v := (u.1, u.2.1, v.2.2.1, v.2.2.2)) hL0 hn (qFr.rf.tr hF (fun q hq => by omega))
  have hL0 := hn
  have hL1 := hL1.fr hF (fun q h1 h2 hq => by omega)
  have hS := hS.tr hF (fun q hq => by omega)
  refine lv_aload_n hx hb dX8_takeOver_33 rfl (lv_at hl 0 rfl) ?_
  refine lv_aload_n hx hb dX8_takeOver_34 rfl (lv_at hl 1 rfl) ?_
  refine q_get hx hb hg in_X8 hown hK hI hL1.1 rfl 3 (by decide) (hg _ wf_X8_21) (fun _ h9 => h9) rfl dX8_takeOver_35 ?_
  have hn := qLT.i3 u.2.2.2 hL0
  refine q_put (v := .int u.2.2.2) hx hb hg in_X8 tyX8_ok nmX8 hown hK hI hL0.1 rfl 3 (by decide) (hg _ wf_X8_21) (fun _ h9 => h9) rfl rfl rfl (Nat.le_of_ble_eq_true rfl) dX8_takeOver_38 (fun H locs hI => ?_)
  obtain ⟨M, hn, hF, hI⟩ : ∃ Mx : qM, qLT cs Mx a (u.1, u.2.1, u.2.2.1, u.2.2.2) ∧ qFr (qIn a 1) M Mx ∧ qI D M0 s.heap Mx N H locs := ⟨_, hn, qFr.up (by decide), hI⟩
  have hL0 := hn
  have hL1 := hL1.fr hF (fun q h1 h2 hq => by omega)
  have hS := hS.tr hF (fun q hq => by omega)
  exact q_vret (st := []) hx hb hret hlk hN hI (by subst hR; exact ⟨rfl, ⟨hL0, hS⟩, rfl⟩) dX8_takeOver_41
def s_X7_takeOver (v : qSV) (u : qSV)  : qSV := (u.1, u.2.1, u.2.2.1, u.2.2.2.1, u.2.2.2.2)
set_option maxHeartbeats 4000000 in
set_option maxRecDepth 20000 in
theorem c_X7_takeOver (l : Launch) (D : va_G) (cs : qC) {M0 : qM} {N a b : Nat} {v : qSV} {u : qSV} (hL0 : qLS cs M0 a v) (hL1 : qLS cs M0 b u) (hd0 : a + 5 ≤ b ∨ b + 5 ≤ a) :
    qMet l D cs yX7_takeOver (qws yX7_takeOver cX7_takeOver 2 none) ({ frames := 2, cells := 0, slots := 0, locals := 43 } : Room) M0 N [.ref a, .ref b] (qMod N none (fun M' => qLS cs M' a (s_X7_takeOver v u) ∧ qFr (qIn a 5) M0 M')) 0 0 := by
  obtain ⟨R, hR⟩ : ∃ R, s_X7_takeOver v u = R := ⟨_, rfl⟩
  rw [hR]
  rw [s_X7_takeOver] at hR
  refine q_head (by decide +kernel) ?_ (Nat.le_of_ble_eq_true rfl)
  intro p e s m below meth c ls hx hb hret hlk hml hown hnm hg hK hN hI hl
  have hl : lv_has ls 2 [(0, .ref a), (1, .ref b)] := hl
  have hS : qFr (qIn a 5) M0 M0 := qFr.rf
  refine lv_aload_n hx hb dX7_takeOver_0 rfl (lv_at hl 1 rfl) ?_
  refine q_get hx hb hg in_X7 hown hK hI hL1.1 rfl 0 (by decide) (hg _ wf_X7_9) (fun _ h9 => h9) rfl dX7_takeOver_1 ?_
  refine lv_aload_n hx hb dX7_takeOver_4 rfl (lv_at hl 0 rfl) ?_
  refine q_get hx hb hg in_X7 hown hK hI hL0.1 rfl 0 (by decide) (hg _ wf_X7_9) (fun _ h9 => h9) rfl dX7_takeOver_5 ?_
  refine q_goN (q_runSN (As := [.ref (b + 1), .ref (a + 1)]) (rest := []) hx hb hml hown hg (c_X10_copyRow l D cs hL1.2.1 hL0.2.1 (by omega)) v_X10_copyRow (hK.2 _ (List.mem_of_getElem? (i := 31) rfl)) rfl rfl ⟨Nat.le_of_ble_eq_true rfl, Nat.le_of_ble_eq_true rfl⟩ hI hK hl.1 rfl rfl (Nat.le_of_ble_eq_true rfl) dX7_takeOver_8 ⟨Nat.le_of_ble_eq_true rfl, Nat.le_of_ble_eq_true rfl⟩) hI (fun M H locs hp hI => ?_)
  obtain ⟨hn1, hF⟩ := hp
  have hn := hn1
  have hn : qLS cs M a (u.1, v.2.1, v.2.2.1, v.2.2.2.1, v.2.2.2.2) := qLS.s0 (v := v) hL0 hn (qFr.rf.tr hF (fun q hq => by omega))
  have hL0 := hn
  have hL1 := hL1.fr hF (fun q h1 h2 hq => by omega)
  have hS := hS.tr hF (fun q hq => by omega)
  refine lv_aload_n hx hb dX7_takeOver_11 rfl (lv_at hl 1 rfl) ?_
  refine q_get hx hb hg in_X7 hown hK hI hL1.1 rfl 1 (by decide) (hg _ wf_X7_15) (fun _ h9 => h9) rfl dX7_takeOver_12 ?_
  refine lv_aload_n hx hb dX7_takeOver_15 rfl (lv_at hl 0 rfl) ?_
  refine q_get hx hb hg in_X7 hown hK hI hL0.1 rfl 1 (by decide) (hg _ wf_X7_15) (fun _ h9 => h9) rfl dX7_takeOver_16 ?_
  refine q_goN (q_runSN (As := [.ref (b + 2), .ref (a + 2)]) (rest := []) hx hb hml hown hg (c_X10_copyRow l D cs hL1.2.2.1 hL0.2.2.1 (by omega)) v_X10_copyRow (hK.2 _ (List.mem_of_getElem? (i := 31) rfl)) rfl rfl ⟨Nat.le_of_ble_eq_true rfl, Nat.le_of_ble_eq_true rfl⟩ hI hK hl.1 rfl rfl (Nat.le_of_ble_eq_true rfl) dX7_takeOver_19 ⟨Nat.le_of_ble_eq_true rfl, Nat.le_of_ble_eq_true rfl⟩) hI (fun M H locs hp hI => ?_)
  obtain ⟨hn1, hF⟩ := hp
  have hn := hn1
  have hn : qLS cs M a (u.1, u.2.1, v.2.2.1, v.2.2.2.1, v.2.2.2.2) := qLS.s1 (v := (u.1, v.2.1, v.2.2.1, v.2.2.2.1, v.2.2.2.2)) hL0 hn (qFr.rf.tr hF (fun q hq => by omega))
  have hL0 := hn
  have hL1 := hL1.fr hF (fun q h1 h2 hq => by omega)
  have hS := hS.tr hF (fun q hq => by omega)
  refine lv_aload_n hx hb dX7_takeOver_22 rfl (lv_at hl 1 rfl) ?_
  refine q_get hx hb hg in_X7 hown hK hI hL1.1 rfl 2 (by decide) (hg _ wf_X7_18) (fun _ h9 => h9) rfl dX7_takeOver_23 ?_
  refine lv_aload_n hx hb dX7_takeOver_26 rfl (lv_at hl 0 rfl) ?_
  refine q_get hx hb hg in_X7 hown hK hI hL0.1 rfl 2 (by decide) (hg _ wf_X7_18) (fun _ h9 => h9) rfl dX7_takeOver_27 ?_
  refine q_goN (q_runSN (As := [.ref (b + 3), .ref (a + 3)]) (rest := []) hx hb hml hown hg (c_X10_copyRow l D cs hL1.2.2.2.1 hL0.2.2.2.1 (by omega)) v_X10_copyRow (hK.2 _ (List.mem_of_getElem? (i := 31) rfl)) rfl rfl ⟨Nat.le_of_ble_eq_true rfl, Nat.le_of_ble_eq_true rfl⟩ hI hK hl.1 rfl rfl (Nat.le_of_ble_eq_true rfl) dX7_takeOver_30 ⟨Nat.le_of_ble_eq_true rfl, Nat.le_of_ble_eq_true rfl⟩) hI (fun M H locs hp hI => ?_)
  obtain ⟨hn1, hF⟩ := hp
  have hn := hn1
  have hn : qLS cs M a (u.1, u.2.1, u.2.2.1, v.2.2.2.1, v.2.2.2.2) := qLS.s2 (v := (u.1, u.2.1, v.2.2.1, v.2.2.2.1, v.2.2.2.2)) hL0 hn (qFr.rf.tr hF (fun q hq => by omega))
  have hL0 := hn
  have hL1 := hL1.fr hF (fun q h1 h2 hq => by omega)
  have hS := hS.tr hF (fun q hq => by omega)
  refine lv_aload_n hx hb dX7_takeOver_33 rfl (lv_at hl 1 rfl) ?_
  refine q_get hx hb hg in_X7 hown hK hI hL1.1 rfl 3 (by decide) (hg _ wf_X7_21) (fun _ h9 => h9) rfl dX7_takeOver_34 ?_
  refine lv_aload_n hx hb dX7_takeOver_37 rfl (lv_at hl 0 rfl) ?_
  refine q_get hx hb hg in_X7 hown hK hI hL0.1 rfl 3 (by decide) (hg _ wf_X7_21) (fun _ h9 => h9) rfl dX7_takeOver_38 ?_
  refine q_goN (q_runSN (As := [.ref (b + 4), .ref (a + 4)]) (rest := []) hx hb hml hown hg (c_X10_copyRow l D cs hL1.2.2.2.2 hL0.2.2.2.2 (by omega)) v_X10_copyRow (hK.2 _ (List.mem_of_getElem? (i := 31) rfl)) rfl rfl ⟨Nat.le_of_ble_eq_true rfl, Nat.le_of_ble_eq_true rfl⟩ hI hK hl.1 rfl rfl (Nat.le_of_ble_eq_true rfl) dX7_takeOver_41 ⟨Nat.le_of_ble_eq_true rfl, Nat.le_of_ble_eq_true rfl⟩) hI (fun M H locs hp hI => ?_)
  obtain ⟨hn1, hF⟩ := hp
  have hn := hn1
  have hn : qLS cs M a (u.1, u.2.1, u.2.2.1, u.2.2.2.1, v.2.2.2.2) := qLS.s3 (v := (u.1, u.2.1, u.2.2.1, v.2.2.2.1, v.2.2.2.2)) hL0 hn (qFr.rf.tr hF (fun q hq => by omega))
  have hL0 := hn
  have hL1 := hL1.fr hF (fun q h1 h2 hq => by omega)
  have hS := hS.tr hF (fun q hq => by omega)
  refine lv_aload_n hx hb dX7_takeOver_44 rfl (lv_at hl 0 rfl) ?_
  refine lv_aload_n hx hb dX7_takeOver_45 rfl (lv_at hl 1 rfl) ?_
  refine q_get hx hb hg in_X7 hown hK hI hL1.1 rfl 4 (by decide) (hg _ wf_X7_24) (fun _ h9 => h9) rfl dX7_takeOver_46 ?_
  have hn := qLS.i4 u.2.2.2.2 hL0
  refine q_put (v := .int u.2.2.2.2) hx hb hg in_X7 tyX7_ok nmX7 hown hK hI hL0.1 rfl 4 (by decide) (hg _ wf_X7_24) (fun _ h9 => h9) rfl rfl rfl (Nat.le_of_ble_eq_true rfl) dX7_takeOver_49 (fun H locs hI => ?_)
  obtain ⟨M, hn, hF, hI⟩ : ∃ Mx : qM, qLS cs Mx a (u.1, u.2.1, u.2.2.1, u.2.2.2.1, u.2.2.2.2) ∧ qFr (qIn a 1) M Mx ∧ qI D M0 s.heap Mx N H locs := ⟨_, hn, qFr.up (by decide), hI⟩
  have hL0 := hn
  have hL1 := hL1.fr hF (fun q h1 h2 hq => by omega)
  have hS := hS.tr hF (fun q hq => by omega)
  exact q_vret (st := []) hx hb hret hlk hN hI (by subst hR; exact ⟨rfl, ⟨hL0, hS⟩, rfl⟩) dX7_takeOver_52
def s_X5_takeOver (v : qQV) (u : qQV)  : qQV := ((s_X1_takeOver v.1 u.1), (s_X8_takeOver v.2.1 u.2.1), (s_X7_takeOver v.2.2.1 u.2.2.1), u.2.2.2.1, u.2.2.2.2.1, u.2.2.2.2.2)
set_option maxHeartbeats 4000000 in
set_option maxRecDepth 20000 in
theorem c_X5_takeOver (l : Launch) (D : va_G) (cs : qC) {M0 : qM} {N a b : Nat} {v : qQV} {u : qQV} (hL0 : qLQ cs M0 a v) (hL1 : qLQ cs M0 b u) (hd0 : a + 13 ≤ b ∨ b + 13 ≤ a) :
    qMet l D cs yX5_takeOver (qws yX5_takeOver cX5_takeOver 2 none) ({ frames := 3, cells := 0, slots := 0, locals := 64 } : Room) M0 N [.ref a, .ref b] (qMod N none (fun M' => qLQ cs M' a (s_X5_takeOver v u) ∧ qFr (qIn a 13) M0 M')) 0 0 := by
  obtain ⟨R, hR⟩ : ∃ R, s_X5_takeOver v u = R := ⟨_, rfl⟩
  rw [hR]
  rw [s_X5_takeOver] at hR
  refine q_head (by decide +kernel) ?_ (Nat.le_of_ble_eq_true rfl)
  intro p e s m below meth c ls hx hb hret hlk hml hown hnm hg hK hN hI hl
  have hl : lv_has ls 2 [(0, .ref a), (1, .ref b)] := hl
  have hS : qFr (qIn a 13) M0 M0 := qFr.rf
  refine lv_aload_n hx hb dX5_takeOver_0 rfl (lv_at hl 1 rfl) ?_
  refine lv_ifnonnull (tgt := 5) hx hb dX5_takeOver_1 (by decide) ?_
  refine lv_aload_n hx hb dX5_takeOver_5 rfl (lv_at hl 0 rfl) ?_
  refine q_get hx hb hg in_X5 hown hK hI hL0.1 rfl 0 (by decide) (hg _ wf_X5_12) (fun _ h9 => h9) rfl dX5_takeOver_6 ?_
  refine lv_aload_n hx hb dX5_takeOver_9 rfl (lv_at hl 1 rfl) ?_
  refine q_get hx hb hg in_X5 hown hK hI hL1.1 rfl 0 (by decide) (hg _ wf_X5_12) (fun _ h9 => h9) rfl dX5_takeOver_10 ?_
  refine q_goN (q_runV (As := [.ref (b + 1)]) (rest := []) hx hb hml hown hg (c_X1_takeOver l D cs hL0.2.1 hL1.2.1 (by omega)) v_X1_takeOver wl_X5_48 rfl rfl ⟨Nat.le_of_ble_eq_true rfl, Nat.le_of_ble_eq_true rfl⟩ hI hK 2 hL0.2.1.1 rfl hl.1 rfl rfl (Nat.le_of_ble_eq_true rfl) dX5_takeOver_13 ⟨Nat.le_of_ble_eq_true rfl, Nat.le_of_ble_eq_true rfl⟩) hI (fun M H locs hp hI => ?_)
  obtain ⟨hn0, hF⟩ := hp
  generalize heg1 : s_X1_takeOver v.1 u.1 = g1 at hn0 hR
  have hn := hn0
  have hn : qLQ cs M a (g1, v.2.1, v.2.2.1, v.2.2.2.1, v.2.2.2.2.1, v.2.2.2.2.2) := qLQ.s0 (v := v) hL0 hn (qFr.rf.tr hF (fun q hq => by omega))
  have hL0 := hn
  have hL1 := hL1.fr hF (fun q h1 h2 hq => by omega)
  have hS := hS.tr hF (fun q hq => by omega)
  refine lv_aload_n hx hb dX5_takeOver_16 rfl (lv_at hl 0 rfl) ?_
  refine q_get hx hb hg in_X5 hown hK hI hL0.1 rfl 1 (by decide) (hg _ wf_X5_21) (fun _ h9 => h9) rfl dX5_takeOver_17 ?_
  refine lv_aload_n hx hb dX5_takeOver_20 rfl (lv_at hl 1 rfl) ?_
  refine q_get hx hb hg in_X5 hown hK hI hL1.1 rfl 1 (by decide) (hg _ wf_X5_21) (fun _ h9 => h9) rfl dX5_takeOver_21 ?_
  refine q_goN (q_runV (As := [.ref (b + 4)]) (rest := []) hx hb hml hown hg (c_X8_takeOver l D cs hL0.2.2.1 hL1.2.2.1 (by omega)) v_X8_takeOver wl_X5_52 rfl rfl ⟨Nat.le_of_ble_eq_true rfl, Nat.le_of_ble_eq_true rfl⟩ hI hK 9 hL0.2.2.1.1 rfl hl.1 rfl rfl (Nat.le_of_ble_eq_true rfl) dX5_takeOver_24 ⟨Nat.le_of_ble_eq_true rfl, Nat.le_of_ble_eq_true rfl⟩) hI (fun M H locs hp hI => ?_)
  obtain ⟨hn0, hF⟩ := hp
  generalize heg2 : s_X8_takeOver v.2.1 u.2.1 = g2 at hn0 hR
  have hn := hn0
  have hn : qLQ cs M a (g1, g2, v.2.2.1, v.2.2.2.1, v.2.2.2.2.1, v.2.2.2.2.2) := qLQ.s1 (v := (g1, v.2.1, v.2.2.1, v.2.2.2.1, v.2.2.2.2.1, v.2.2.2.2.2)) hL0 hn (qFr.rf.tr hF (fun q hq => by omega))
  have hL0 := hn
  have hL1 := hL1.fr hF (fun q h1 h2 hq => by omega)
  have hS := hS.tr hF (fun q hq => by omega)
  refine lv_aload_n hx hb dX5_takeOver_27 rfl (lv_at hl 0 rfl) ?_
  refine q_get hx hb hg in_X5 hown hK hI hL0.1 rfl 2 (by decide) (hg _ wf_X5_28) (fun _ h9 => h9) rfl dX5_takeOver_28 ?_
  refine lv_aload_n hx hb dX5_takeOver_31 rfl (lv_at hl 1 rfl) ?_
  refine q_get hx hb hg in_X5 hown hK hI hL1.1 rfl 2 (by decide) (hg _ wf_X5_28) (fun _ h9 => h9) rfl dX5_takeOver_32 ?_
  refine q_goN (q_runV (As := [.ref (b + 8)]) (rest := []) hx hb hml hown hg (c_X7_takeOver l D cs hL0.2.2.2 hL1.2.2.2 (by omega)) v_X7_takeOver wl_X5_55 rfl rfl ⟨Nat.le_of_ble_eq_true rfl, Nat.le_of_ble_eq_true rfl⟩ hI hK 8 hL0.2.2.2.1 rfl hl.1 rfl rfl (Nat.le_of_ble_eq_true rfl) dX5_takeOver_35 ⟨Nat.le_of_ble_eq_true rfl, Nat.le_of_ble_eq_true rfl⟩) hI (fun M H locs hp hI => ?_)
  obtain ⟨hn0, hF⟩ := hp
  generalize heg3 : s_X7_takeOver v.2.2.1 u.2.2.1 = g3 at hn0 hR
  have hn := hn0
  have hn : qLQ cs M a (g1, g2, g3, v.2.2.2.1, v.2.2.2.2.1, v.2.2.2.2.2) := qLQ.s2 (v := (g1, g2, v.2.2.1, v.2.2.2.1, v.2.2.2.2.1, v.2.2.2.2.2)) hL0 hn (qFr.rf.tr hF (fun q hq => by omega))
  have hL0 := hn
  have hL1 := hL1.fr hF (fun q h1 h2 hq => by omega)
  have hS := hS.tr hF (fun q hq => by omega)
  refine lv_aload_n hx hb dX5_takeOver_38 rfl (lv_at hl 0 rfl) ?_
  refine lv_aload_n hx hb dX5_takeOver_39 rfl (lv_at hl 1 rfl) ?_
  refine q_get hx hb hg in_X5 hown hK hI hL1.1 rfl 3 (by decide) (hg _ wf_X5_38) (fun _ h9 => h9) rfl dX5_takeOver_40 ?_
  have hn := qLQ.i3 u.2.2.2.1 hL0
  refine q_put (v := .int u.2.2.2.1) hx hb hg in_X5 tyX5_ok nmX5 hown hK hI hL0.1 rfl 3 (by decide) (hg _ wf_X5_38) (fun _ h9 => h9) rfl rfl rfl (Nat.le_of_ble_eq_true rfl) dX5_takeOver_43 (fun H locs hI => ?_)
  obtain ⟨M, hn, hF, hI⟩ : ∃ Mx : qM, qLQ cs Mx a (g1, g2, g3, u.2.2.2.1, v.2.2.2.2.1, v.2.2.2.2.2) ∧ qFr (qIn a 1) M Mx ∧ qI D M0 s.heap Mx N H locs := ⟨_, hn, qFr.up (by decide), hI⟩
  have hL0 := hn
  have hL1 := hL1.fr hF (fun q h1 h2 hq => by omega)
  have hS := hS.tr hF (fun q hq => by omega)
  refine lv_aload_n hx hb dX5_takeOver_46 rfl (lv_at hl 0 rfl) ?_
  refine lv_aload_n hx hb dX5_takeOver_47 rfl (lv_at hl 1 rfl) ?_
  refine q_get hx hb hg in_X5 hown hK hI hL1.1 rfl 4 (by decide) (hg _ wf_X5_42) (fun _ h9 => h9) rfl dX5_takeOver_48 ?_
  have hn := qLQ.i4 u.2.2.2.2.1 hL0
  refine q_put (v := .int u.2.2.2.2.1) hx hb hg in_X5 tyX5_ok nmX5 hown hK hI hL0.1 rfl 4 (by decide) (hg _ wf_X5_42) (fun _ h9 => h9) rfl rfl rfl (Nat.le_of_ble_eq_true rfl) dX5_takeOver_51 (fun H locs hI => ?_)
  obtain ⟨M, hn, hF, hI⟩ : ∃ Mx : qM, qLQ cs Mx a (g1, g2, g3, u.2.2.2.1, u.2.2.2.2.1, v.2.2.2.2.2) ∧ qFr (qIn a 1) M Mx ∧ qI D M0 s.heap Mx N H locs := ⟨_, hn, qFr.up (by decide), hI⟩
  have hL0 := hn
  have hL1 := hL1.fr hF (fun q h1 h2 hq => by omega)
  have hS := hS.tr hF (fun q hq => by omega)
  refine lv_aload_n hx hb dX5_takeOver_54 rfl (lv_at hl 0 rfl) ?_
  refine lv_aload_n hx hb dX5_takeOver_55 rfl (lv_at hl 1 rfl) ?_
  refine q_get hx hb hg in_X5 hown hK hI hL1.1 rfl 5 (by decide) (hg _ wf_X5_45) (fun _ h9 => h9) rfl dX5_takeOver_56 ?_
  have hn := qLQ.i5 u.2.2.2.2.2 hL0
  refine q_put (v := .int u.2.2.2.2.2) hx hb hg in_X5 tyX5_ok nmX5 hown hK hI hL0.1 rfl 5 (by decide) (hg _ wf_X5_45) (fun _ h9 => h9) rfl rfl rfl (Nat.le_of_ble_eq_true rfl) dX5_takeOver_59 (fun H locs hI => ?_)
  obtain ⟨M, hn, hF, hI⟩ : ∃ Mx : qM, qLQ cs Mx a (g1, g2, g3, u.2.2.2.1, u.2.2.2.2.1, u.2.2.2.2.2) ∧ qFr (qIn a 1) M Mx ∧ qI D M0 s.heap Mx N H locs := ⟨_, hn, qFr.up (by decide), hI⟩
  have hL0 := hn
  have hL1 := hL1.fr hF (fun q h1 h2 hq => by omega)
  have hS := hS.tr hF (fun q hq => by omega)
  exact q_vret (st := []) hx hb hret hlk hN hI (by subst hR; exact ⟨rfl, ⟨hL0, hS⟩, rfl⟩) dX5_takeOver_62
