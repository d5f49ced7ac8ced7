def s_X5_makeEmpty (v : qQV)  : qQV := ((s_X1_makeEmpty v.1), (s_X8_makeEmpty v.2.1), (s_X7_makeEmpty v.2.2.1), 0, 0, 0)
set_option maxHeartbeats 4000000 in
set_option maxRecDepth 20000 in
theorem c_X5_makeEmpty (l : Launch) (D : va_G) (cs : qC) {M0 : qM} {N a : Nat} {v : qQV} (hL0 : qLQ cs M0 a v) :
    qMet l D cs yX5_makeEmpty (qws yX5_makeEmpty cX5_makeEmpty 1 none) ({ frames := 2, cells := 0, slots := 0, locals := 42 } : Room) M0 N [.ref a] (qMod N none (fun M' => qLQ cs M' a (s_X5_makeEmpty v) ∧ qFr (qIn a 13) M0 M')) 0 0 := by
  obtain ⟨R, hR⟩ : ∃ R, s_X5_makeEmpty v = R := ⟨_, rfl⟩
  rw [hR]
  rw [s_X5_makeEmpty] at hR
  refine q_head (by decide +kernel) ?_ (Nat.le_of_ble_eq_true rfl)
  intro p e s m below meth c ls hx hb hret hlk hml hown hnm hg hK hN hI hl
  have hl : lv_has ls 1 [(0, .ref a)] := hl
  have hS : qFr (qIn a 13) M0 M0 := qFr.rf
  refine lv_aload_n hx hb dX5_makeEmpty_0 rfl (lv_at hl 0 rfl) ?_
  refine q_get hx hb hg in_X5 hown hK hI hL0.1 rfl 0 (by decide) (hg _ wf_X5_12) (fun _ h9 => h9) rfl dX5_makeEmpty_1 ?_
  refine q_goN (q_runV (As := []) (rest := []) hx hb hml hown hg (c_X1_makeEmpty l D cs hL0.2.1) v_X1_makeEmpty wl_X5_35 rfl rfl ⟨Nat.le_of_ble_eq_true rfl, Nat.le_of_ble_eq_true rfl⟩ hI hK 2 hL0.2.1.1 rfl hl.1 rfl rfl (Nat.le_of_ble_eq_true rfl) dX5_makeEmpty_4 ⟨Nat.le_of_ble_eq_true rfl, Nat.le_of_ble_eq_true rfl⟩) hI (fun M H locs hp hI => ?_)
  obtain ⟨hn0, hF⟩ := hp
  generalize heg1 : s_X1_makeEmpty v.1 = g1 at hn0 hR
  have hn := hn0
  have hn : qLQ cs M a (g1, v.2.1, v.2.2.1, v.2.2.2.1, v.2.2.2.2.1, v.2.2.2.2.2) := qLQ.s0 (v := v) hL0 hn (qFr.rf.tr hF (fun q hq => by omega))
  have hL0 := hn
  have hS := hS.tr hF (fun q hq => by omega)
  refine lv_aload_n hx hb dX5_makeEmpty_7 rfl (lv_at hl 0 rfl) ?_
  refine q_get hx hb hg in_X5 hown hK hI hL0.1 rfl 1 (by decide) (hg _ wf_X5_21) (fun _ h9 => h9) rfl dX5_makeEmpty_8 ?_
  refine q_goN (q_runV (As := []) (rest := []) hx hb hml hown hg (c_X8_makeEmpty l D cs hL0.2.2.1) v_X8_makeEmpty wl_X5_36 rfl rfl ⟨Nat.le_of_ble_eq_true rfl, Nat.le_of_ble_eq_true rfl⟩ hI hK 9 hL0.2.2.1.1 rfl hl.1 rfl rfl (Nat.le_of_ble_eq_true rfl) dX5_makeEmpty_11 ⟨Nat.le_of_ble_eq_true rfl, Nat.le_of_ble_eq_true rfl⟩) hI (fun M H locs hp hI => ?_)
  obtain ⟨hn0, hF⟩ := hp
  generalize heg2 : s_X8_makeEmpty v.2.1 = g2 at hn0 hR
  have hn := hn0
  have hn : qLQ cs M a (g1, g2, v.2.2.1, v.2.2.2.1, v.2.2.2.2.1, v.2.2.2.2.2) := qLQ.s1 (v := (g1, v.2.1, v.2.2.1, v.2.2.2.1, v.2.2.2.2.1, v.2.2.2.2.2)) hL0 hn (qFr.rf.tr hF (fun q hq => by omega))
  have hL0 := hn
  have hS := hS.tr hF (fun q hq => by omega)
  refine lv_aload_n hx hb dX5_makeEmpty_14 rfl (lv_at hl 0 rfl) ?_
  refine q_get hx hb hg in_X5 hown hK hI hL0.1 rfl 2 (by decide) (hg _ wf_X5_28) (fun _ h9 => h9) rfl dX5_makeEmpty_15 ?_
  refine q_goN (q_runV (As := []) (rest := []) hx hb hml hown hg (c_X7_makeEmpty l D cs hL0.2.2.2) v_X7_makeEmpty wl_X5_37 rfl rfl ⟨Nat.le_of_ble_eq_true rfl, Nat.le_of_ble_eq_true rfl⟩ hI hK 8 hL0.2.2.2.1 rfl hl.1 rfl rfl (Nat.le_of_ble_eq_true rfl) dX5_makeEmpty_18 ⟨Nat.le_of_ble_eq_true rfl, Nat.le_of_ble_eq_true rfl⟩) hI (fun M H locs hp hI => ?_)
  obtain ⟨hn0, hF⟩ := hp
  generalize heg3 : s_X7_makeEmpty v.2.2.1 = g3 at hn0 hR
  have hn := hn0
  have hn : qLQ cs M a (g1, g2, g3, v.2.2.2.1, v.2.2.2.2.1, v.2.2.2.2.2) := qLQ.s2 (v := (g1, g2, v.2.2.1, v.2.2.2.1, v.2.2.2.2.1, v.2.2.2.2.2)) hL0 hn (qFr.rf.tr hF (fun q hq => by omega))
  have hL0 := hn
  have hS := hS.tr hF (fun q hq => by omega)
  refine lv_aload_n hx hb dX5_makeEmpty_21 rfl (lv_at hl 0 rfl) ?_
  refine lv_iconst (v := 0) hx hb dX5_makeEmpty_22 (by decide) ?_
  have hn := qLQ.i3 0 hL0
  refine q_put (v := .int 0) hx hb hg in_X5 tyX5_ok nmX5 hown hK hI hL0.1 rfl 3 (by decide) (hg _ wf_X5_38) (fun _ h9 => h9) rfl rfl rfl (Nat.le_of_ble_eq_true rfl) dX5_makeEmpty_23 (fun H locs hI => ?_)
  obtain ⟨M, hn, hF, hI⟩ : ∃ Mx : qM, qLQ cs Mx a (g1, g2, g3, 0, v.2.2.2.2.1, v.2.2.2.2.2) ∧ qFr (qIn a 1) M Mx ∧ qI D M0 s.heap Mx N H locs := ⟨_, hn, qFr.up (by decide), hI⟩
  have hL0 := hn
  have hS := hS.tr hF (fun q hq => by omega)
  refine lv_aload_n hx hb dX5_makeEmpty_26 rfl (lv_at hl 0 rfl) ?_
  refine lv_iconst (v := 0) hx hb dX5_makeEmpty_27 (by decide) ?_
  have hn := qLQ.i4 0 hL0
  refine q_put (v := .int 0) hx hb hg in_X5 tyX5_ok nmX5 hown hK hI hL0.1 rfl 4 (by decide) (hg _ wf_X5_42) (fun _ h9 => h9) rfl rfl rfl (Nat.le_of_ble_eq_true rfl) dX5_makeEmpty_28 (fun H locs hI => ?_)
  obtain ⟨M, hn, hF, hI⟩ : ∃ Mx : qM, qLQ cs Mx a (g1, g2, g3, 0, 0, v.2.2.2.2.2) ∧ qFr (qIn a 1) M Mx ∧ qI D M0 s.heap Mx N H locs := ⟨_, hn, qFr.up (by decide), hI⟩
  have hL0 := hn
  have hS := hS.tr hF (fun q hq => by omega)
  refine lv_aload_n hx hb dX5_makeEmpty_31 rfl (lv_at hl 0 rfl) ?_
  refine lv_iconst (v := 0) hx hb dX5_makeEmpty_32 (by decide) ?_
  have hn := qLQ.i5 0 hL0
  refine q_put (v := .int 0) hx hb hg in_X5 tyX5_ok nmX5 hown hK hI hL0.1 rfl 5 (by decide) (hg _ wf_X5_45) (fun _ h9 => h9) rfl rfl rfl (Nat.le_of_ble_eq_true rfl) dX5_makeEmpty_33 (fun H locs hI => ?_)
  obtain ⟨M, hn, hF, hI⟩ : ∃ Mx : qM, qLQ cs Mx a (g1, g2, g3, 0, 0, 0) ∧ qFr (qIn a 1) M Mx ∧ qI D M0 s.heap Mx N H locs := ⟨_, hn, qFr.up (by decide), hI⟩
  have hL0 := hn
  have hS := hS.tr hF (fun q hq => by omega)
  exact q_vret (st := []) hx hb hret hlk hN hI (by subst hR; exact ⟨rfl, ⟨hL0, hS⟩, rfl⟩) dX5_makeEmpty_36
def s_X5_expose_L47 (p1 : Int32) : Nat → Int32 → Int32 → Int32 → qQV → qQV
  | 0, _, _, _, _ => default
  | n + 1, x2h47, x3h47, x4h47, z0 => (if 16 ≤ x4h47 then (z0.1, (s_X8_splay z0.2.1 p1), z0.2.2.1, z0.2.2.2.1, z0.2.2.2.2.1, z0.2.2.2.2.2) else (if x3h47 < 0 then (z0.1, (s_X8_splay z0.2.1 p1), z0.2.2.1, z0.2.2.2.1, z0.2.2.2.2.1, z0.2.2.2.2.2) else (s_X5_expose_L47 p1 n x3h47 (s_X1_holderOf z0.1 (s_X8_topOf (s_X8_joinRight (s_X8_takeRightOff (s_X8_splay z0.2.1 x3h47) x3h47) x3h47 x2h47) x3h47)) (x4h47 + 1) (z0.1, (s_X8_joinRight (s_X8_takeRightOff (s_X8_splay z0.2.1 x3h47) x3h47) x3h47 x2h47), z0.2.2.1, z0.2.2.2.1, z0.2.2.2.2.1, z0.2.2.2.2.2))))
def s_X5_expose (v : qQV) (p1 : Int32) : qQV := (s_X5_expose_L47 p1 ((16 : Int32).toInt.toNat + 1) p1 (s_X1_holderOf v.1 (s_X8_topOf (s_X8_takeRightOff (s_X8_splay v.2.1 p1) p1) p1)) 0 (v.1, (s_X8_takeRightOff (s_X8_splay v.2.1 p1) p1), v.2.2.1, v.2.2.2.1 + 1, v.2.2.2.2.1, v.2.2.2.2.2))
set_option maxHeartbeats 4000000 in
set_option maxRecDepth 20000 in
theorem c_X5_expose (l : Launch) (D : va_G) (cs : qC) {M0 : qM} {N a : Nat} {v : qQV} (hL0 : qLQ cs M0 a v) (p1 : Int32) :
    qMet l D cs yX5_expose (qws yX5_expose cX5_expose 5 none) ({ frames := 4, cells := 0, slots := 0, locals := 96 } : Room) M0 N [.ref a, .int p1] (qMod N none (fun M' => qLQ cs M' a (s_X5_expose v p1) ∧ qFr (qIn a 13) M0 M')) 0 0 := by
  obtain ⟨R, hR⟩ : ∃ R, s_X5_expose v p1 = R := ⟨_, rfl⟩
  rw [hR]
  rw [s_X5_expose] at hR
  refine q_head (by decide +kernel) ?_ (Nat.le_of_ble_eq_true rfl)
  intro p e s m below meth c ls hx hb hret hlk hml hown hnm hg hK hN hI hl
  have hl : lv_has ls 5 [(0, .ref a), (1, .int p1)] := hl
  have hS : qFr (qIn a 13) M0 M0 := qFr.rf
  refine lv_aload_n hx hb dX5_expose_0 rfl (lv_at hl 0 rfl) ?_
  refine lv_dup hx hb dX5_expose_1 rfl ?_
  refine q_get hx hb hg in_X5 hown hK hI hL0.1 rfl 3 (by decide) (hg _ wf_X5_38) (fun _ h9 => h9) rfl dX5_expose_2 ?_
  refine lv_iconst (v := 1) hx hb dX5_expose_5 (by decide) ?_
  refine lv_iadd hx hb dX5_expose_6 ?_
  have hn := qLQ.i3 (v.2.2.2.1 + 1) hL0
  refine q_put (v := .int (v.2.2.2.1 + 1)) hx hb hg in_X5 tyX5_ok nmX5 hown hK hI hL0.1 rfl 3 (by decide) (hg _ wf_X5_38) (fun _ h9 => h9) rfl rfl rfl (Nat.le_of_ble_eq_true rfl) dX5_expose_7 (fun H locs hI => ?_)
  obtain ⟨M, hn, hF, hI⟩ : ∃ Mx : qM, qLQ cs Mx a (v.1, v.2.1, v.2.2.1, v.2.2.2.1 + 1, v.2.2.2.2.1, v.2.2.2.2.2) ∧ qFr (qIn a 1) M0 Mx ∧ qI D M0 s.heap Mx N H locs := ⟨_, hn, qFr.up (by decide), hI⟩
  have hL0 := hn
  have hS := hS.tr hF (fun q hq => by omega)
  refine lv_aload_n hx hb dX5_expose_10 rfl (lv_at hl 0 rfl) ?_
  refine q_get hx hb hg in_X5 hown hK hI hL0.1 rfl 1 (by decide) (hg _ wf_X5_21) (fun _ h9 => h9) rfl dX5_expose_11 ?_
  refine lv_iload_n hx hb dX5_expose_14 rfl (lv_at hl 1 rfl) ?_
  refine q_goN (q_runV (As := [.int p1]) (rest := []) hx hb hml hown hg (c_X8_splay l D cs hL0.2.2.1 p1) v_X8_splay wl_X5_105 rfl rfl ⟨Nat.le_of_ble_eq_true rfl, Nat.le_of_ble_eq_true rfl⟩ hI hK 9 hL0.2.2.1.1 rfl hl.1 rfl rfl (Nat.le_of_ble_eq_true rfl) dX5_expose_15 ⟨Nat.le_of_ble_eq_true rfl, Nat.le_of_ble_eq_true rfl⟩) hI (fun M H locs hp hI => ?_)
  obtain ⟨hn0, hF⟩ := hp
  generalize heg1 : s_X8_splay v.2.1 p1 = g1 at hn0 hR
  have hn := hn0
  have hn : qLQ cs M a (v.1, g1, v.2.2.1, v.2.2.2.1 + 1, v.2.2.2.2.1, v.2.2.2.2.2) := qLQ.s1 (v := (v.1, v.2.1, v.2.2.1, v.2.2.2.1 + 1, v.2.2.2.2.1, v.2.2.2.2.2)) hL0 hn (qFr.rf.tr hF (fun q hq => by omega))
  have hL0 := hn
  have hS := hS.tr hF (fun q hq => by omega)
  refine lv_aload_n hx hb dX5_expose_18 rfl (lv_at hl 0 rfl) ?_
  refine q_get hx hb hg in_X5 hown hK hI hL0.1 rfl 1 (by decide) (hg _ wf_X5_21) (fun _ h9 => h9) rfl dX5_expose_19 ?_
  refine lv_iload_n hx hb dX5_expose_22 rfl (lv_at hl 1 rfl) ?_
  refine q_goN (q_runV (As := [.int p1]) (rest := []) hx hb hml hown hg (c_X8_takeRightOff l D cs hL0.2.2.1 p1) v_X8_takeRightOff wl_X5_134 rfl rfl ⟨Nat.le_of_ble_eq_true rfl, Nat.le_of_ble_eq_true rfl⟩ hI hK 9 hL0.2.2.1.1 rfl hl.1 rfl rfl (Nat.le_of_ble_eq_true rfl) dX5_expose_23 ⟨Nat.le_of_ble_eq_true rfl, Nat.le_of_ble_eq_true rfl⟩) hI (fun M H locs hp hI => ?_)
  obtain ⟨hn0, hF⟩ := hp
  generalize heg2 : s_X8_takeRightOff g1 p1 = g2 at hn0 hR
  have hn := hn0
  have hn : qLQ cs M a (v.1, g2, v.2.2.1, v.2.2.2.1 + 1, v.2.2.2.2.1, v.2.2.2.2.2) := qLQ.s1 (v := (v.1, g1, v.2.2.1, v.2.2.2.1 + 1, v.2.2.2.2.1, v.2.2.2.2.2)) hL0 hn (qFr.rf.tr hF (fun q hq => by omega))
  have hL0 := hn
  have hS := hS.tr hF (fun q hq => by omega)
  refine lv_iload_n hx hb dX5_expose_26 rfl (lv_at hl 1 rfl) ?_
  refine lv_istore_n (lv' := [(2, .int p1), (0, .ref a), (1, .int p1)]) hx hb dX5_expose_27 rfl hl (by decide) rfl (fun ls hl => ?_)
  refine lv_aload_n hx hb dX5_expose_28 rfl (lv_at hl 1 rfl) ?_
  refine q_get hx hb hg in_X5 hown hK hI hL0.1 rfl 0 (by decide) (hg _ wf_X5_12) (fun _ h9 => h9) rfl dX5_expose_29 ?_
  refine lv_aload_n hx hb dX5_expose_32 rfl (lv_at hl 1 rfl) ?_
  refine q_get hx hb hg in_X5 hown hK hI hL0.1 rfl 1 (by decide) (hg _ wf_X5_21) (fun _ h9 => h9) rfl dX5_expose_33 ?_
  refine lv_iload_n hx hb dX5_expose_36 rfl (lv_at hl 0 rfl) ?_
  refine q_goR (q_runV (As := [.int p1]) (rest := [.ref (a + 1)]) hx hb hml hown hg (c_X8_topOf l D cs hL0.2.2.1 p1) v_X8_topOf wl_X5_137 rfl rfl ⟨Nat.le_of_ble_eq_true rfl, Nat.le_of_ble_eq_true rfl⟩ hI hK 9 hL0.2.2.1.1 rfl hl.1 rfl rfl (Nat.le_of_ble_eq_true rfl) dX5_expose_37 ⟨Nat.le_of_ble_eq_true rfl, Nat.le_of_ble_eq_true rfl⟩) hI (fun H locs hI => ?_)
  refine q_goR (q_runV (As := [.int (s_X8_topOf g2 p1)]) (rest := []) hx hb hml hown hg (c_X1_holderOf l D cs hL0.2.1 (s_X8_topOf g2 p1)) v_X1_holderOf wl_X5_78 rfl rfl ⟨Nat.le_of_ble_eq_true rfl, Nat.le_of_ble_eq_true rfl⟩ hI hK 2 hL0.2.1.1 rfl hl.1 rfl rfl (Nat.le_of_ble_eq_true rfl) dX5_expose_40 ⟨Nat.le_of_ble_eq_true rfl, Nat.le_of_ble_eq_true rfl⟩) hI (fun H locs hI => ?_)
  refine lv_istore_n (lv' := [(3, .int (s_X1_holderOf v.1 (s_X8_topOf g2 p1))), (2, .int p1), (0, .ref a), (1, .int p1)]) hx hb dX5_expose_43 rfl hl (by decide) rfl (fun ls hl => ?_)
  refine lv_iconst (v := 0) hx hb dX5_expose_44 (by decide) ?_
  refine lv_istore (lv' := [(4, .int 0), (3, .int (s_X1_holderOf v.1 (s_X8_topOf g2 p1))), (2, .int p1), (0, .ref a), (1, .int p1)]) hx hb dX5_expose_45 hl (by decide) rfl (fun ls hl => ?_)
  have loop47 : ∀ (n47 : Nat) (x2h47 : Int32) (x3h47 : Int32) (x4h47 : Int32) (z0 : qQV), qmu 16 x4h47 < n47 → s_X5_expose_L47 p1 n47 x2h47 x3h47 x4h47 z0 = R → ∀ (M : qM) (H : Heap) (locs : List Loc) (ls : Array Slot), qLQ cs M a z0 → qFr (qIn a 13) M0 M → qI D M0 s.heap M N H locs → lv_has ls 5 [(0, .ref a), (1, .int p1), (2, .int x2h47), (3, .int x3h47), (4, .int x4h47)] →
      W p l e ({ frames := 4, cells := 0, slots := 0, locals := 96 } : Room) s m [Value.ref a, Value.int p1].toArray below meth c H locs 0 0 (MQ below (qQ D M0 N (qMod N none (fun M' => qLQ cs M' a R ∧ qFr (qIn a 13) M0 M'))) [Value.ref a, Value.int p1].toArray s 0 0 (qA M0 N)) (F0 m 47 ls []) := by
    intro n47
    induction n47 with
    | zero => intro x2h47 x3h47 x4h47 z0 hm; exact absurd hm (Nat.not_lt_zero _)
    | succ n47 ih47 =>
      intro x2h47 x3h47 x4h47 z0 hm47 hR M H locs ls hL0 hS hI hl
      rw [s_X5_expose_L47] at hR
      refine lv_iload hx hb dX5_expose_47 (lv_at hl 4 rfl) ?_
      refine lv_bipush (v := 16) hx hb dX5_expose_49 (by decide) ?_
      refine lv_icmp_ge (tgt := 107) hx hb dX5_expose_51 (by decide) (fun c3 => ?_) (fun c3 => ?_)
      · rw [if_pos c3] at hR
        refine lv_aload_n hx hb dX5_expose_107 rfl (lv_at hl 0 rfl) ?_
        refine q_get hx hb hg in_X5 hown hK hI hL0.1 rfl 1 (by decide) (hg _ wf_X5_21) (fun _ h9 => h9) rfl dX5_expose_108 ?_
        refine lv_iload_n hx hb dX5_expose_111 rfl (lv_at hl 1 rfl) ?_
        refine q_goN (q_runV (As := [.int p1]) (rest := []) hx hb hml hown hg (c_X8_splay l D cs hL0.2.2.1 p1) v_X8_splay wl_X5_105 rfl rfl ⟨Nat.le_of_ble_eq_true rfl, Nat.le_of_ble_eq_true rfl⟩ hI hK 9 hL0.2.2.1.1 rfl hl.1 rfl rfl (Nat.le_of_ble_eq_true rfl) dX5_expose_112 ⟨Nat.le_of_ble_eq_true rfl, Nat.le_of_ble_eq_true rfl⟩) hI (fun M H locs hp hI => ?_)
        obtain ⟨hn0, hF⟩ := hp
        generalize heg4 : s_X8_splay z0.2.1 p1 = g4 at hn0 hR
        have hn := hn0
        have hn : qLQ cs M a (z0.1, g4, z0.2.2.1, z0.2.2.2.1, z0.2.2.2.2.1, z0.2.2.2.2.2) := qLQ.s1 (v := z0) hL0 hn (qFr.rf.tr hF (fun q hq => by omega))
        have hL0 := hn
        have hS := hS.tr hF (fun q hq => by omega)
        exact q_vret (st := []) hx hb hret hlk hN hI (by subst hR; exact ⟨rfl, ⟨hL0, hS⟩, rfl⟩) dX5_expose_115
      · rw [if_neg c3] at hR
        refine lv_iload_n hx hb dX5_expose_54 rfl (lv_at hl 3 rfl) ?_
        refine lv_if_lt (tgt := 107) hx hb dX5_expose_55 (by decide) (fun c5 => ?_) (fun c5 => ?_)
        · rw [if_pos c5] at hR
          refine lv_aload_n hx hb dX5_expose_107 rfl (lv_at hl 0 rfl) ?_
          refine q_get hx hb hg in_X5 hown hK hI hL0.1 rfl 1 (by decide) (hg _ wf_X5_21) (fun _ h9 => h9) rfl dX5_expose_108 ?_
          refine lv_iload_n hx hb dX5_expose_111 rfl (lv_at hl 1 rfl) ?_
          refine q_goN (q_runV (As := [.int p1]) (rest := []) hx hb hml hown hg (c_X8_splay l D cs hL0.2.2.1 p1) v_X8_splay wl_X5_105 rfl rfl ⟨Nat.le_of_ble_eq_true rfl, Nat.le_of_ble_eq_true rfl⟩ hI hK 9 hL0.2.2.1.1 rfl hl.1 rfl rfl (Nat.le_of_ble_eq_true rfl) dX5_expose_112 ⟨Nat.le_of_ble_eq_true rfl, Nat.le_of_ble_eq_true rfl⟩) hI (fun M H locs hp hI => ?_)
          obtain ⟨hn0, hF⟩ := hp
          generalize heg6 : s_X8_splay z0.2.1 p1 = g6 at hn0 hR
          have hn := hn0
          have hn : qLQ cs M a (z0.1, g6, z0.2.2.1, z0.2.2.2.1, z0.2.2.2.2.1, z0.2.2.2.2.2) := qLQ.s1 (v := z0) hL0 hn (qFr.rf.tr hF (fun q hq => by omega))
          have hL0 := hn
          have hS := hS.tr hF (fun q hq => by omega)
          exact q_vret (st := []) hx hb hret hlk hN hI (by subst hR; exact ⟨rfl, ⟨hL0, hS⟩, rfl⟩) dX5_expose_115
        · rw [if_neg c5] at hR
          refine lv_aload_n hx hb dX5_expose_58 rfl (lv_at hl 0 rfl) ?_
          refine q_get hx hb hg in_X5 hown hK hI hL0.1 rfl 1 (by decide) (hg _ wf_X5_21) (fun _ h9 => h9) rfl dX5_expose_59 ?_
          refine lv_iload_n hx hb dX5_expose_62 rfl (lv_at hl 3 rfl) ?_
          refine q_goN (q_runV (As := [.int x3h47]) (rest := []) hx hb hml hown hg (c_X8_splay l D cs hL0.2.2.1 x3h47) v_X8_splay wl_X5_105 rfl rfl ⟨Nat.le_of_ble_eq_true rfl, Nat.le_of_ble_eq_true rfl⟩ hI hK 9 hL0.2.2.1.1 rfl hl.1 rfl rfl (Nat.le_of_ble_eq_true rfl) dX5_expose_63 ⟨Nat.le_of_ble_eq_true rfl, Nat.le_of_ble_eq_true rfl⟩) hI (fun M H locs hp hI => ?_)
          obtain ⟨hn0, hF⟩ := hp
          generalize heg7 : s_X8_splay z0.2.1 x3h47 = g7 at hn0 hR
          have hn := hn0
          have hn : qLQ cs M a (z0.1, g7, z0.2.2.1, z0.2.2.2.1, z0.2.2.2.2.1, z0.2.2.2.2.2) := qLQ.s1 (v := z0) hL0 hn (qFr.rf.tr hF (fun q hq => by omega))
          have hL0 := hn
          have hS := hS.tr hF (fun q hq => by omega)
          refine lv_aload_n hx hb dX5_expose_66 rfl (lv_at hl 0 rfl) ?_
          refine q_get hx hb hg in_X5 hown hK hI hL0.1 rfl 1 (by decide) (hg _ wf_X5_21) (fun _ h9 => h9) rfl dX5_expose_67 ?_
          refine lv_iload_n hx hb dX5_expose_70 rfl (lv_at hl 3 rfl) ?_
          refine q_goN (q_runV (As := [.int x3h47]) (rest := []) hx hb hml hown hg (c_X8_takeRightOff l D cs hL0.2.2.1 x3h47) v_X8_takeRightOff wl_X5_134 rfl rfl ⟨Nat.le_of_ble_eq_true rfl, Nat.le_of_ble_eq_true rfl⟩ hI hK 9 hL0.2.2.1.1 rfl hl.1 rfl rfl (Nat.le_of_ble_eq_true rfl) dX5_expose_71 ⟨Nat.le_of_ble_eq_true rfl, Nat.le_of_ble_eq_true rfl⟩) hI (fun M H locs hp hI => ?_)
          obtain ⟨hn0, hF⟩ := hp
          generalize heg8 : s_X8_takeRightOff g7 x3h47 = g8 at hn0 hR
          have hn := hn0
          have hn : qLQ cs M a (z0.1, g8, z0.2.2.1, z0.2.2.2.1, z0.2.2.2.2.1, z0.2.2.2.2.2) := qLQ.s1 (v := (z0.1, g7, z0.2.2.1, z0.2.2.2.1, z0.2.2.2.2.1, z0.2.2.2.2.2)) hL0 hn (qFr.rf.tr hF (fun q hq => by omega))
          have hL0 := hn
          have hS := hS.tr hF (fun q hq => by omega)
          refine lv_aload_n hx hb dX5_expose_74 rfl (lv_at hl 0 rfl) ?_
          refine q_get hx hb hg in_X5 hown hK hI hL0.1 rfl 1 (by decide) (hg _ wf_X5_21) (fun _ h9 => h9) rfl dX5_expose_75 ?_
          refine lv_iload_n hx hb dX5_expose_78 rfl (lv_at hl 3 rfl) ?_
          refine lv_iload_n hx hb dX5_expose_79 rfl (lv_at hl 2 rfl) ?_
          refine q_goN (q_runV (As := [.int x3h47, .int x2h47]) (rest := []) hx hb hml hown hg (c_X8_joinRight l D cs hL0.2.2.1 x3h47 x2h47) v_X8_joinRight wl_X5_140 rfl rfl ⟨Nat.le_of_ble_eq_true rfl, Nat.le_of_ble_eq_true rfl⟩ hI hK 9 hL0.2.2.1.1 rfl hl.1 rfl rfl (Nat.le_of_ble_eq_true rfl) dX5_expose_80 ⟨Nat.le_of_ble_eq_true rfl, Nat.le_of_ble_eq_true rfl⟩) hI (fun M H locs hp hI => ?_)
          obtain ⟨hn0, hF⟩ := hp
          generalize heg9 : s_X8_joinRight g8 x3h47 x2h47 = g9 at hn0 hR
          have hn := hn0
          have hn : qLQ cs M a (z0.1, g9, z0.2.2.1, z0.2.2.2.1, z0.2.2.2.2.1, z0.2.2.2.2.2) := qLQ.s1 (v := (z0.1, g8, z0.2.2.1, z0.2.2.2.1, z0.2.2.2.2.1, z0.2.2.2.2.2)) hL0 hn (qFr.rf.tr hF (fun q hq => by omega))
          have hL0 := hn
          have hS := hS.tr hF (fun q hq => by omega)
          refine lv_iload_n hx hb dX5_expose_83 rfl (lv_at hl 3 rfl) ?_
          refine lv_istore_n (lv' := [(2, .int x3h47), (0, .ref a), (1, .int p1), (3, .int x3h47), (4, .int x4h47)]) hx hb dX5_expose_84 rfl hl (by decide) rfl (fun ls hl => ?_)
          refine lv_aload_n hx hb dX5_expose_85 rfl (lv_at hl 1 rfl) ?_
          refine q_get hx hb hg in_X5 hown hK hI hL0.1 rfl 0 (by decide) (hg _ wf_X5_12) (fun _ h9 => h9) rfl dX5_expose_86 ?_
          refine lv_aload_n hx hb dX5_expose_89 rfl (lv_at hl 1 rfl) ?_
          refine q_get hx hb hg in_X5 hown hK hI hL0.1 rfl 1 (by decide) (hg _ wf_X5_21) (fun _ h9 => h9) rfl dX5_expose_90 ?_
          refine lv_iload_n hx hb dX5_expose_93 rfl (lv_at hl 0 rfl) ?_
          refine q_goR (q_runV (As := [.int x3h47]) (rest := [.ref (a + 1)]) hx hb hml hown hg (c_X8_topOf l D cs hL0.2.2.1 x3h47) v_X8_topOf wl_X5_137 rfl rfl ⟨Nat.le_of_ble_eq_true rfl, Nat.le_of_ble_eq_true rfl⟩ hI hK 9 hL0.2.2.1.1 rfl hl.1 rfl rfl (Nat.le_of_ble_eq_true rfl) dX5_expose_94 ⟨Nat.le_of_ble_eq_true rfl, Nat.le_of_ble_eq_true rfl⟩) hI (fun H locs hI => ?_)
          refine q_goR (q_runV (As := [.int (s_X8_topOf g9 x3h47)]) (rest := []) hx hb hml hown hg (c_X1_holderOf l D cs hL0.2.1 (s_X8_topOf g9 x3h47)) v_X1_holderOf wl_X5_78 rfl rfl ⟨Nat.le_of_ble_eq_true rfl, Nat.le_of_ble_eq_true rfl⟩ hI hK 2 hL0.2.1.1 rfl hl.1 rfl rfl (Nat.le_of_ble_eq_true rfl) dX5_expose_97 ⟨Nat.le_of_ble_eq_true rfl, Nat.le_of_ble_eq_true rfl⟩) hI (fun H locs hI => ?_)
          refine lv_istore_n (lv' := [(3, .int (s_X1_holderOf z0.1 (s_X8_topOf g9 x3h47))), (2, .int x3h47), (0, .ref a), (1, .int p1), (4, .int x4h47)]) hx hb dX5_expose_100 rfl hl (by decide) rfl (fun ls hl => ?_)
          refine lv_iinc (v := x4h47 + 1) (lv' := [(4, .int (x4h47 + 1)), (3, .int (s_X1_holderOf z0.1 (s_X8_topOf g9 x3h47))), (2, .int x3h47), (0, .ref a), (1, .int p1)]) hx hb dX5_expose_101 hl (k := 4) rfl rfl (by decide) rfl (fun ls hl => ?_)
          refine lv_goto (tgt := 47) hx hb dX5_expose_104 (by decide) ?_
          exact ih47 x3h47 (s_X1_holderOf z0.1 (s_X8_topOf g9 x3h47)) (x4h47 + 1) (z0.1, g9, z0.2.2.1, z0.2.2.2.1, z0.2.2.2.2.1, z0.2.2.2.2.2) (q_mu c3 hm47) hR _ _ _ _ hL0 hS hI (lv_sub hl [3, 4, 2, 1, 0] rfl)
  exact loop47 _ p1 (s_X1_holderOf v.1 (s_X8_topOf g2 p1)) 0 (v.1, g2, v.2.2.1, v.2.2.2.1 + 1, v.2.2.2.2.1, v.2.2.2.2.2) (q_fuel _) hR _ _ _ _ hL0 hS hI (lv_sub hl [3, 4, 2, 1, 0] rfl)
def s_X5_addBlock (v : qQV) (u : qRV) (p1 : Int32) : Int32 × qQV × qRV := (if (qbi (s_X5_isWeight  p1)) = 0 then ((-2), v, u) else (if v.1.2.2 < 16 then ((s_X1_add v.1 p1).1, ((s_X1_add v.1 p1).2, v.2.1, v.2.2.1, v.2.2.2.1, v.2.2.2.2.1, v.2.2.2.2.2), u) else ((s_X6_refuse u 1 16).1, v, (s_X6_refuse u 1 16).2)))
set_option maxHeartbeats 4000000 in
set_option maxRecDepth 20000 in
theorem c_X5_addBlock (l : Launch) (D : va_G) (cs : qC) {M0 : qM} {N a b : Nat} {v : qQV} {u : qRV} (hL0 : qLQ cs M0 a v) (hL1 : qLR cs M0 b u) (hd0 : a + 13 ≤ b ∨ b + 1 ≤ a) (p1 : Int32) :
    qMet l D cs yX5_addBlock (qws yX5_addBlock cX5_addBlock 3 (some .int)) ({ frames := 2, cells := 0, slots := 0, locals := 44 } : Room) M0 N [.ref a, .int p1, .ref b] (qMod N (some (.int ((s_X5_addBlock v u p1).1))) (fun M' => qLQ cs M' a ((s_X5_addBlock v u p1).2.1) ∧ qLR cs M' b ((s_X5_addBlock v u p1).2.2) ∧ qFr (fun q => qIn a 13 q ∨ qIn b 1 q) M0 M')) 0 0 := by
  obtain ⟨R, hR⟩ : ∃ R, s_X5_addBlock v u p1 = R := ⟨_, rfl⟩
  rw [hR]
  rw [s_X5_addBlock] at hR
  refine q_head (by decide +kernel) ?_ (Nat.le_of_ble_eq_true rfl)
  intro p e s m below meth c ls hx hb hret hlk hml hown hnm hg hK hN hI hl
  have hl : lv_has ls 3 [(0, .ref a), (1, .int p1), (2, .ref b)] := hl
  have hS : qFr (fun q => qIn a 13 q ∨ qIn b 1 q) M0 M0 := qFr.rf
  refine lv_iload_n hx hb dX5_addBlock_0 rfl (lv_at hl 1 rfl) ?_
  refine q_goR (q_runS (As := [.int p1]) (rest := []) hx hb hml hown hg (c_X5_isWeight l D cs p1) v_X5_isWeight wl_X5_58 rfl rfl ⟨Nat.le_of_ble_eq_true rfl, Nat.le_of_ble_eq_true rfl⟩ hI hK hl.1 rfl rfl (Nat.le_of_ble_eq_true rfl) dX5_addBlock_1 ⟨Nat.le_of_ble_eq_true rfl, Nat.le_of_ble_eq_true rfl⟩) hI (fun H locs hI => ?_)
  refine lv_if_ne (tgt := 10) hx hb dX5_addBlock_4 (by decide) (fun c1 => ?_) (fun c1 => ?_)
  · rw [if_neg c1] at hR
    refine lv_aload_n hx hb dX5_addBlock_10 rfl (lv_at hl 0 rfl) ?_
    refine q_get hx hb hg in_X5 hown hK hI hL0.1 rfl 0 (by decide) (hg _ wf_X5_12) (fun _ h9 => h9) rfl dX5_addBlock_11 ?_
    refine q_getN hx hb hg in_X1 hown hK hI hL0.2.1.1 rfl 2 (by decide) (hK.2 _ (List.mem_of_getElem? (i := 3) rfl)) (fun _ h9 => h9) rfl dX5_addBlock_14 ?_
    refine lv_bipush (v := 16) hx hb dX5_addBlock_17 (by decide) ?_
    refine lv_icmp_lt (tgt := 30) hx hb dX5_addBlock_19 (by decide) (fun c2 => ?_) (fun c2 => ?_)
    · rw [if_pos c2] at hR
      refine lv_aload_n hx hb dX5_addBlock_30 rfl (lv_at hl 0 rfl) ?_
      refine q_get hx hb hg in_X5 hown hK hI hL0.1 rfl 0 (by decide) (hg _ wf_X5_12) (fun _ h9 => h9) rfl dX5_addBlock_31 ?_
      refine lv_iload_n hx hb dX5_addBlock_34 rfl (lv_at hl 1 rfl) ?_
      refine q_goP (q_runV (As := [.int p1]) (rest := []) hx hb hml hown hg (c_X1_add l D cs hL0.2.1 p1) v_X1_add wl_X5_71 rfl rfl ⟨Nat.le_of_ble_eq_true rfl, Nat.le_of_ble_eq_true rfl⟩ hI hK 2 hL0.2.1.1 rfl hl.1 rfl rfl (Nat.le_of_ble_eq_true rfl) dX5_addBlock_35 ⟨Nat.le_of_ble_eq_true rfl, Nat.le_of_ble_eq_true rfl⟩) hI (fun M H locs hp hI => ?_)
      obtain ⟨hn0, hF⟩ := hp
      generalize heg3 : s_X1_add v.1 p1 = g3 at hn0 hR ⊢
      have hn := hn0
      have hn : qLQ cs M a (g3.2, v.2.1, v.2.2.1, v.2.2.2.1, v.2.2.2.2.1, v.2.2.2.2.2) := qLQ.s0 (v := v) hL0 hn (qFr.rf.tr hF (fun q hq => by omega))
      have hL0 := hn
      have hL1 := hL1.fr hF (fun q h1 h2 hq => by omega)
      have hS := hS.tr hF (fun q hq => by omega)
      exact q_iret hx hb hret hlk hN hI (by subst hR; exact ⟨rfl, ⟨hL0, hL1, hS⟩, rfl⟩) dX5_addBlock_38
    · rw [if_neg c2] at hR
      refine lv_aload_n hx hb dX5_addBlock_22 rfl (lv_at hl 2 rfl) ?_
      refine lv_iconst (v := 1) hx hb dX5_addBlock_23 (by decide) ?_
      refine lv_bipush (v := 16) hx hb dX5_addBlock_24 (by decide) ?_
      refine q_goP (q_runV (As := [.int 1, .int 16]) (rest := []) hx hb hml hown hg (c_X6_refuse l D cs hL1 1 16) v_X6_refuse wl_X5_65 rfl rfl ⟨Nat.le_of_ble_eq_true rfl, Nat.le_of_ble_eq_true rfl⟩ hI hK 7 hL1 rfl hl.1 rfl rfl (Nat.le_of_ble_eq_true rfl) dX5_addBlock_26 ⟨Nat.le_of_ble_eq_true rfl, Nat.le_of_ble_eq_true rfl⟩) hI (fun M H locs hp hI => ?_)
      obtain ⟨hn0, hF⟩ := hp
      generalize heg4 : s_X6_refuse u 1 16 = g4 at hn0 hR ⊢
      have hn := hn0
      have hL1 := hn
      have hL0 := hL0.fr hF (fun q h1 h2 hq => by omega)
      have hS := hS.tr hF (fun q hq => by omega)
      exact q_iret hx hb hret hlk hN hI (by subst hR; exact ⟨rfl, ⟨hL0, hL1, hS⟩, rfl⟩) dX5_addBlock_29
  · rw [if_pos c1] at hR
    refine lv_bipush (v := (-2)) hx hb dX5_addBlock_7 (by decide) ?_
    exact q_iret hx hb hret hlk hN hI (by subst hR; exact ⟨rfl, ⟨hL0, hL1, hS⟩, rfl⟩) dX5_addBlock_9
def s_X5_hangOn (v : qQV) (u : qRV) (p1 : Int32) (p2 : Int32) : Int32 × qQV × qRV := (if (qbi (s_X1_isThere v.1 p1)) = 0 then ((-1), v, u) else (if (qbi (s_X1_isThere v.1 p2)) = 0 then ((-1), v, u) else (if (s_X1_holderOf v.1 p1) < 0 then (if (s_X1_rootByHolders v.1 p2) = p1 then ((s_X6_refuse u 3 p1).1, v, (s_X6_refuse u 3 p1).2) else (s_X1_depthOf ((s_X5_expose (s_X5_expose v p1) p2).1.1, (rowPut (s_X5_expose (s_X5_expose v p1) p2).1.2.1 p1 p2), (s_X5_expose (s_X5_expose v p1) p2).1.2.2) p1, (((s_X5_expose (s_X5_expose v p1) p2).1.1, (rowPut (s_X5_expose (s_X5_expose v p1) p2).1.2.1 p1 p2), (s_X5_expose (s_X5_expose v p1) p2).1.2.2), (s_X5_expose (s_X5_expose v p1) p2).2.1, (s_X5_expose (s_X5_expose v p1) p2).2.2.1, (s_X5_expose (s_X5_expose v p1) p2).2.2.2.1, (s_X5_expose (s_X5_expose v p1) p2).2.2.2.2.1 + 1, (s_X5_expose (s_X5_expose v p1) p2).2.2.2.2.2), u)) else ((s_X6_refuse u 2 (s_X1_holderOf v.1 p1)).1, v, (s_X6_refuse u 2 (s_X1_holderOf v.1 p1)).2))))
set_option maxHeartbeats 4000000 in
set_option maxRecDepth 20000 in
theorem c_X5_hangOn (l : Launch) (D : va_G) (cs : qC) {M0 : qM} {N a b : Nat} {v : qQV} {u : qRV} (hL0 : qLQ cs M0 a v) (hL1 : qLR cs M0 b u) (hd0 : a + 13 ≤ b ∨ b + 1 ≤ a) (p1 : Int32) (p2 : Int32) :
    qMet l D cs yX5_hangOn (qws yX5_hangOn cX5_hangOn 4 (some .int)) ({ frames := 5, cells := 0, slots := 0, locals := 120 } : Room) M0 N [.ref a, .int p1, .int p2, .ref b] (qMod N (some (.int ((s_X5_hangOn v u p1 p2).1))) (fun M' => qLQ cs M' a ((s_X5_hangOn v u p1 p2).2.1) ∧ qLR cs M' b ((s_X5_hangOn v u p1 p2).2.2) ∧ qFr (fun q => qIn a 13 q ∨ qIn b 1 q) M0 M')) 0 0 := by
  obtain ⟨R, hR⟩ : ∃ R, s_X5_hangOn v u p1 p2 = R := ⟨_, rfl⟩
  rw [hR]
  rw [s_X5_hangOn] at hR
  refine q_head (by decide +kernel) ?_ (Nat.le_of_ble_eq_true rfl)
  intro p e s m below meth c ls hx hb hret hlk hml hown hnm hg hK hN hI hl
  have hl : lv_has ls 4 [(0, .ref a), (1, .int p1), (2, .int p2), (3, .ref b)] := hl
  have hS : qFr (fun q => qIn a 13 q ∨ qIn b 1 q) M0 M0 := qFr.rf
  refine lv_aload_n hx hb dX5_hangOn_0 rfl (lv_at hl 0 rfl) ?_
  refine q_get hx hb hg in_X5 hown hK hI hL0.1 rfl 0 (by decide) (hg _ wf_X5_12) (fun _ h9 => h9) rfl dX5_hangOn_1 ?_
  refine lv_iload_n hx hb dX5_hangOn_4 rfl (lv_at hl 1 rfl) ?_
  refine q_goR (q_runV (As := [.int p1]) (rest := []) hx hb hml hown hg (c_X1_isThere l D cs hL0.2.1 p1) v_X1_isThere wl_X5_75 rfl rfl ⟨Nat.le_of_ble_eq_true rfl, Nat.le_of_ble_eq_true rfl⟩ hI hK 2 hL0.2.1.1 rfl hl.1 rfl rfl (Nat.le_of_ble_eq_true rfl) dX5_hangOn_5 ⟨Nat.le_of_ble_eq_true rfl, Nat.le_of_ble_eq_true rfl⟩) hI (fun H locs hI => ?_)
  refine lv_if_eq (tgt := 22) hx hb dX5_hangOn_8 (by decide) (fun c1 => ?_) (fun c1 => ?_)
  · rw [if_pos c1] at hR
    refine lv_iconst (v := (-1)) hx hb dX5_hangOn_22 (by decide) ?_
    exact q_iret hx hb hret hlk hN hI (by subst hR; exact ⟨rfl, ⟨hL0, hL1, hS⟩, rfl⟩) dX5_hangOn_23
  · rw [if_neg c1] at hR
    refine lv_aload_n hx hb dX5_hangOn_11 rfl (lv_at hl 0 rfl) ?_
    refine q_get hx hb hg in_X5 hown hK hI hL0.1 rfl 0 (by decide) (hg _ wf_X5_12) (fun _ h9 => h9) rfl dX5_hangOn_12 ?_
    refine lv_iload_n hx hb dX5_hangOn_15 rfl (lv_at hl 2 rfl) ?_
    refine q_goR (q_runV (As := [.int p2]) (rest := []) hx hb hml hown hg (c_X1_isThere l D cs hL0.2.1 p2) v_X1_isThere wl_X5_75 rfl rfl ⟨Nat.le_of_ble_eq_true rfl, Nat.le_of_ble_eq_true rfl⟩ hI hK 2 hL0.2.1.1 rfl hl.1 rfl rfl (Nat.le_of_ble_eq_true rfl) dX5_hangOn_16 ⟨Nat.le_of_ble_eq_true rfl, Nat.le_of_ble_eq_true rfl⟩) hI (fun H locs hI => ?_)
    refine lv_if_ne (tgt := 24) hx hb dX5_hangOn_19 (by decide) (fun c2 => ?_) (fun c2 => ?_)
    · rw [if_neg c2] at hR
      refine lv_aload_n hx hb dX5_hangOn_24 rfl (lv_at hl 0 rfl) ?_
      refine q_get hx hb hg in_X5 hown hK hI hL0.1 rfl 0 (by decide) (hg _ wf_X5_12) (fun _ h9 => h9) rfl dX5_hangOn_25 ?_
      refine lv_iload_n hx hb dX5_hangOn_28 rfl (lv_at hl 1 rfl) ?_
      refine q_goR (q_runV (As := [.int p1]) (rest := []) hx hb hml hown hg (c_X1_holderOf l D cs hL0.2.1 p1) v_X1_holderOf wl_X5_78 rfl rfl ⟨Nat.le_of_ble_eq_true rfl, Nat.le_of_ble_eq_true rfl⟩ hI hK 2 hL0.2.1.1 rfl hl.1 rfl rfl (Nat.le_of_ble_eq_true rfl) dX5_hangOn_29 ⟨Nat.le_of_ble_eq_true rfl, Nat.le_of_ble_eq_true rfl⟩) hI (fun H locs hI => ?_)
      refine lv_if_lt (tgt := 49) hx hb dX5_hangOn_32 (by decide) (fun c3 => ?_) (fun c3 => ?_)
      · rw [if_pos c3] at hR
        refine lv_aload_n hx hb dX5_hangOn_49 rfl (lv_at hl 0 rfl) ?_
        refine q_get hx hb hg in_X5 hown hK hI hL0.1 rfl 0 (by decide) (hg _ wf_X5_12) (fun _ h9 => h9) rfl dX5_hangOn_50 ?_
        refine lv_iload_n hx hb dX5_hangOn_53 rfl (lv_at hl 2 rfl) ?_
        refine q_goR (q_runV (As := [.int p2]) (rest := []) hx hb hml hown hg (c_X1_rootByHolders l D cs hL0.2.1 p2) v_X1_rootByHolders wl_X5_81 rfl rfl ⟨Nat.le_of_ble_eq_true rfl, Nat.le_of_ble_eq_true rfl⟩ hI hK 2 hL0.2.1.1 rfl hl.1 rfl rfl (Nat.le_of_ble_eq_true rfl) dX5_hangOn_54 ⟨Nat.le_of_ble_eq_true rfl, Nat.le_of_ble_eq_true rfl⟩) hI (fun H locs hI => ?_)
        refine lv_iload_n hx hb dX5_hangOn_57 rfl (lv_at hl 1 rfl) ?_
        refine lv_icmp_ne (tgt := 68) hx hb dX5_hangOn_58 (by decide) (fun c4 => ?_) (fun c4 => ?_)
        · rw [if_neg c4] at hR
          refine lv_aload_n hx hb dX5_hangOn_68 rfl (lv_at hl 0 rfl) ?_
          refine lv_iload_n hx hb dX5_hangOn_69 rfl (lv_at hl 1 rfl) ?_
          refine q_goN (q_runV (As := [.int p1]) (rest := []) hx hb hml hown hg (c_X5_expose l D cs hL0 p1) v_X5_expose wl_X5_84 rfl rfl ⟨Nat.le_of_ble_eq_true rfl, Nat.le_of_ble_eq_true rfl⟩ hI hK 6 hL0.1 rfl hl.1 rfl rfl (Nat.le_of_ble_eq_true rfl) dX5_hangOn_70 ⟨Nat.le_of_ble_eq_true rfl, Nat.le_of_ble_eq_true rfl⟩) hI (fun M H locs hp hI => ?_)
          obtain ⟨hn0, hF⟩ := hp
          generalize heg5 : s_X5_expose v p1 = g5 at hn0 hR
          have hn := hn0
          have hL0 := hn
          have hL1 := hL1.fr hF (fun q h1 h2 hq => by omega)
          have hS := hS.tr hF (fun q hq => by omega)
          refine lv_aload_n hx hb dX5_hangOn_73 rfl (lv_at hl 0 rfl) ?_
          refine lv_iload_n hx hb dX5_hangOn_74 rfl (lv_at hl 2 rfl) ?_
          refine q_goN (q_runV (As := [.int p2]) (rest := []) hx hb hml hown hg (c_X5_expose l D cs hL0 p2) v_X5_expose wl_X5_84 rfl rfl ⟨Nat.le_of_ble_eq_true rfl, Nat.le_of_ble_eq_true rfl⟩ hI hK 6 hL0.1 rfl hl.1 rfl rfl (Nat.le_of_ble_eq_true rfl) dX5_hangOn_75 ⟨Nat.le_of_ble_eq_true rfl, Nat.le_of_ble_eq_true rfl⟩) hI (fun M H locs hp hI => ?_)
          obtain ⟨hn0, hF⟩ := hp
          generalize heg6 : s_X5_expose g5 p2 = g6 at hn0 hR
          have hn := hn0
          have hL0 := hn
          have hL1 := hL1.fr hF (fun q h1 h2 hq => by omega)
          have hS := hS.tr hF (fun q hq => by omega)
          refine lv_aload_n hx hb dX5_hangOn_78 rfl (lv_at hl 0 rfl) ?_
          refine q_get hx hb hg in_X5 hown hK hI hL0.1 rfl 0 (by decide) (hg _ wf_X5_12) (fun _ h9 => h9) rfl dX5_hangOn_79 ?_
          refine q_getN hx hb hg in_X1 hown hK hI hL0.2.1.1 rfl 1 (by decide) (hK.2 _ (List.mem_of_getElem? (i := 2) rfl)) (fun _ h9 => h9) rfl dX5_hangOn_82 ?_
          refine lv_iload_n hx hb dX5_hangOn_85 rfl (lv_at hl 1 rfl) ?_
          refine lv_iload_n hx hb dX5_hangOn_86 rfl (lv_at hl 2 rfl) ?_
          refine q_goN (q_runSN (As := [.ref (a + 1 + 2), .int p1, .int p2]) (rest := []) hx hb hml hown hg (c_X10_put l D cs hL0.2.1.2.2 p1 p2) v_X10_put (hK.2 _ (List.mem_of_getElem? (i := 38) rfl)) rfl rfl ⟨Nat.le_of_ble_eq_true rfl, Nat.le_of_ble_eq_true rfl⟩ hI hK hl.1 rfl rfl (Nat.le_of_ble_eq_true rfl) dX5_hangOn_87 ⟨Nat.le_of_ble_eq_true rfl, Nat.le_of_ble_eq_true rfl⟩) hI (fun M H locs hp hI => ?_)
          obtain ⟨hn0, hF⟩ := hp
          generalize heg7 : rowPut g6.1.2.1 p1 p2 = g7 at hn0 hR
          have hn := hn0
          have hn : qLB cs M (a + 1) (g6.1.1, g7, g6.1.2.2) := qLB.s1 (v := g6.1) hL0.2.1 hn (qFr.rf.tr hF (fun q hq => by omega))
          have hn : qLQ cs M a ((g6.1.1, g7, g6.1.2.2), g6.2.1, g6.2.2.1, g6.2.2.2.1, g6.2.2.2.2.1, g6.2.2.2.2.2) := qLQ.s0 (v := g6) hL0 hn (qFr.rf.tr hF (fun q hq => by omega))
          have hL0 := hn
          have hL1 := hL1.fr hF (fun q h1 h2 hq => by omega)
          have hS := hS.tr hF (fun q hq => by omega)
          refine lv_aload_n hx hb dX5_hangOn_90 rfl (lv_at hl 0 rfl) ?_
          refine lv_dup hx hb dX5_hangOn_91 rfl ?_
          refine q_get hx hb hg in_X5 hown hK hI hL0.1 rfl 4 (by decide) (hg _ wf_X5_42) (fun _ h9 => h9) rfl dX5_hangOn_92 ?_
          refine lv_iconst (v := 1) hx hb dX5_hangOn_95 (by decide) ?_
          refine lv_iadd hx hb dX5_hangOn_96 ?_
          have hn := qLQ.i4 (g6.2.2.2.2.1 + 1) hL0
          refine q_put (v := .int (g6.2.2.2.2.1 + 1)) hx hb hg in_X5 tyX5_ok nmX5 hown hK hI hL0.1 rfl 4 (by decide) (hg _ wf_X5_42) (fun _ h9 => h9) rfl rfl rfl (Nat.le_of_ble_eq_true rfl) dX5_hangOn_97 (fun H locs hI => ?_)
          obtain ⟨M, hn, hF, hI⟩ : ∃ Mx : qM, qLQ cs Mx a ((g6.1.1, g7, g6.1.2.2), g6.2.1, g6.2.2.1, g6.2.2.2.1, g6.2.2.2.2.1 + 1, g6.2.2.2.2.2) ∧ qFr (qIn a 1) M Mx ∧ qI D M0 s.heap Mx N H locs := ⟨_, hn, qFr.up (by decide), hI⟩
          have hL0 := hn
          have hL1 := hL1.fr hF (fun q h1 h2 hq => by omega)
          have hS := hS.tr hF (fun q hq => by omega)
          refine lv_aload_n hx hb dX5_hangOn_100 rfl (lv_at hl 0 rfl) ?_
          refine q_get hx hb hg in_X5 hown hK hI hL0.1 rfl 0 (by decide) (hg _ wf_X5_12) (fun _ h9 => h9) rfl dX5_hangOn_101 ?_
          refine lv_iload_n hx hb dX5_hangOn_104 rfl (lv_at hl 1 rfl) ?_
          refine q_goR (q_runV (As := [.int p1]) (rest := []) hx hb hml hown hg (c_X1_depthOf l D cs hL0.2.1 p1) v_X1_depthOf wl_X5_96 rfl rfl ⟨Nat.le_of_ble_eq_true rfl, Nat.le_of_ble_eq_true rfl⟩ hI hK 2 hL0.2.1.1 rfl hl.1 rfl rfl (Nat.le_of_ble_eq_true rfl) dX5_hangOn_105 ⟨Nat.le_of_ble_eq_true rfl, Nat.le_of_ble_eq_true rfl⟩) hI (fun H locs hI => ?_)
          exact q_iret hx hb hret hlk hN hI (by subst hR; exact ⟨rfl, ⟨hL0, hL1, hS⟩, rfl⟩) dX5_hangOn_108
        · rw [if_pos c4] at hR
          refine lv_aload_n hx hb dX5_hangOn_61 rfl (lv_at hl 3 rfl) ?_
          refine lv_iconst (v := 3) hx hb dX5_hangOn_62 (by decide) ?_
          refine lv_iload_n hx hb dX5_hangOn_63 rfl (lv_at hl 1 rfl) ?_
          refine q_goP (q_runV (As := [.int 3, .int p1]) (rest := []) hx hb hml hown hg (c_X6_refuse l D cs hL1 3 p1) v_X6_refuse wl_X5_65 rfl rfl ⟨Nat.le_of_ble_eq_true rfl, Nat.le_of_ble_eq_true rfl⟩ hI hK 7 hL1 rfl hl.1 rfl rfl (Nat.le_of_ble_eq_true rfl) dX5_hangOn_64 ⟨Nat.le_of_ble_eq_true rfl, Nat.le_of_ble_eq_true rfl⟩) hI (fun M H locs hp hI => ?_)
          obtain ⟨hn0, hF⟩ := hp
          generalize heg8 : s_X6_refuse u 3 p1 = g8 at hn0 hR ⊢
          have hn := hn0
          have hL1 := hn
          have hL0 := hL0.fr hF (fun q h1 h2 hq => by omega)
          have hS := hS.tr hF (fun q hq => by omega)
          exact q_iret hx hb hret hlk hN hI (by subst hR; exact ⟨rfl, ⟨hL0, hL1, hS⟩, rfl⟩) dX5_hangOn_67
      · rw [if_neg c3] at hR
        refine lv_aload_n hx hb dX5_hangOn_35 rfl (lv_at hl 3 rfl) ?_
        refine lv_iconst (v := 2) hx hb dX5_hangOn_36 (by decide) ?_
        refine lv_aload_n hx hb dX5_hangOn_37 rfl (lv_at hl 0 rfl) ?_
        refine q_get hx hb hg in_X5 hown hK hI hL0.1 rfl 0 (by decide) (hg _ wf_X5_12) (fun _ h9 => h9) rfl dX5_hangOn_38 ?_
        refine lv_iload_n hx hb dX5_hangOn_41 rfl (lv_at hl 1 rfl) ?_
        refine q_goR (q_runV (As := [.int p1]) (rest := [.int 2, .ref b]) hx hb hml hown hg (c_X1_holderOf l D cs hL0.2.1 p1) v_X1_holderOf wl_X5_78 rfl rfl ⟨Nat.le_of_ble_eq_true rfl, Nat.le_of_ble_eq_true rfl⟩ hI hK 2 hL0.2.1.1 rfl hl.1 rfl rfl (Nat.le_of_ble_eq_true rfl) dX5_hangOn_42 ⟨Nat.le_of_ble_eq_true rfl, Nat.le_of_ble_eq_true rfl⟩) hI (fun H locs hI => ?_)
        refine q_goP (q_runV (As := [.int 2, .int (s_X1_holderOf v.1 p1)]) (rest := []) hx hb hml hown hg (c_X6_refuse l D cs hL1 2 (s_X1_holderOf v.1 p1)) v_X6_refuse wl_X5_65 rfl rfl ⟨Nat.le_of_ble_eq_true rfl, Nat.le_of_ble_eq_true rfl⟩ hI hK 7 hL1 rfl hl.1 rfl rfl (Nat.le_of_ble_eq_true rfl) dX5_hangOn_45 ⟨Nat.le_of_ble_eq_true rfl, Nat.le_of_ble_eq_true rfl⟩) hI (fun M H locs hp hI => ?_)
        obtain ⟨hn0, hF⟩ := hp
        generalize heg9 : s_X6_refuse u 2 (s_X1_holderOf v.1 p1) = g9 at hn0 hR ⊢
        have hn := hn0
        have hL1 := hn
        have hL0 := hL0.fr hF (fun q h1 h2 hq => by omega)
        have hS := hS.tr hF (fun q hq => by omega)
        exact q_iret hx hb hret hlk hN hI (by subst hR; exact ⟨rfl, ⟨hL0, hL1, hS⟩, rfl⟩) dX5_hangOn_48
    · rw [if_pos c2] at hR
      refine lv_iconst (v := (-1)) hx hb dX5_hangOn_22 (by decide) ?_
      exact q_iret hx hb hret hlk hN hI (by subst hR; exact ⟨rfl, ⟨hL0, hL1, hS⟩, rfl⟩) dX5_hangOn_23
def s_X5_cutOff (v : qQV) (u : qRV) (p1 : Int32) : Int32 × qQV × qRV := (if (qbi (s_X1_isThere v.1 p1)) = 0 then ((-1), v, u) else (if 0 ≤ (s_X1_holderOf v.1 p1) then (s_X1_holderOf v.1 p1, (((s_X5_expose v p1).1.1, (rowPut (s_X5_expose v p1).1.2.1 p1 (-1)), (s_X5_expose v p1).1.2.2), (s_X8_takeLeftOff (s_X5_expose v p1).2.1 p1), (s_X5_expose v p1).2.2.1, (s_X5_expose v p1).2.2.2.1, (s_X5_expose v p1).2.2.2.2.1, (s_X5_expose v p1).2.2.2.2.2 + 1), u) else ((s_X6_refuse u 4 p1).1, v, (s_X6_refuse u 4 p1).2)))
set_option maxHeartbeats 4000000 in
set_option maxRecDepth 20000 in
theorem c_X5_cutOff (l : Launch) (D : va_G) (cs : qC) {M0 : qM} {N a b : Nat} {v : qQV} {u : qRV} (hL0 : qLQ cs M0 a v) (hL1 : qLR cs M0 b u) (hd0 : a + 13 ≤ b ∨ b + 1 ≤ a) (p1 : Int32) :
    qMet l D cs yX5_cutOff (qws yX5_cutOff cX5_cutOff 4 (some .int)) ({ frames := 5, cells := 0, slots := 0, locals := 120 } : Room) M0 N [.ref a, .int p1, .ref b] (qMod N (some (.int ((s_X5_cutOff v u p1).1))) (fun M' => qLQ cs M' a ((s_X5_cutOff v u p1).2.1) ∧ qLR cs M' b ((s_X5_cutOff v u p1).2.2) ∧ qFr (fun q => qIn a 13 q ∨ qIn b 1 q) M0 M')) 0 0 := by
  obtain ⟨R, hR⟩ : ∃ R, s_X5_cutOff v u p1 = R := ⟨_, rfl⟩
  rw [hR]
  rw [s_X5_cutOff] at hR
  refine q_head (by decide +kernel) ?_ (Nat.le_of_ble_eq_true rfl)
  intro p e s m below meth c ls hx hb hret hlk hml hown hnm hg hK hN hI hl
  have hl : lv_has ls 4 [(0, .ref a), (1, .int p1), (2, .ref b)] := hl
  have hS : qFr (fun q => qIn a 13 q ∨ qIn b 1 q) M0 M0 := qFr.rf
  refine lv_aload_n hx hb dX5_cutOff_0 rfl (lv_at hl 0 rfl) ?_
  refine q_get hx hb hg in_X5 hown hK hI hL0.1 rfl 0 (by decide) (hg _ wf_X5_12) (fun _ h9 => h9) rfl dX5_cutOff_1 ?_
  refine lv_iload_n hx hb dX5_cutOff_4 rfl (lv_at hl 1 rfl) ?_
  refine q_goR (q_runV (As := [.int p1]) (rest := []) hx hb hml hown hg (c_X1_isThere l D cs hL0.2.1 p1) v_X1_isThere wl_X5_75 rfl rfl ⟨Nat.le_of_ble_eq_true rfl, Nat.le_of_ble_eq_true rfl⟩ hI hK 2 hL0.2.1.1 rfl hl.1 rfl rfl (Nat.le_of_ble_eq_true rfl) dX5_cutOff_5 ⟨Nat.le_of_ble_eq_true rfl, Nat.le_of_ble_eq_true rfl⟩) hI (fun H locs hI => ?_)
  refine lv_if_ne (tgt := 13) hx hb dX5_cutOff_8 (by decide) (fun c1 => ?_) (fun c1 => ?_)
  · rw [if_neg c1] at hR
    refine lv_aload_n hx hb dX5_cutOff_13 rfl (lv_at hl 0 rfl) ?_
    refine q_get hx hb hg in_X5 hown hK hI hL0.1 rfl 0 (by decide) (hg _ wf_X5_12) (fun _ h9 => h9) rfl dX5_cutOff_14 ?_
    refine lv_iload_n hx hb dX5_cutOff_17 rfl (lv_at hl 1 rfl) ?_
    refine q_goR (q_runV (As := [.int p1]) (rest := []) hx hb hml hown hg (c_X1_holderOf l D cs hL0.2.1 p1) v_X1_holderOf wl_X5_78 rfl rfl ⟨Nat.le_of_ble_eq_true rfl, Nat.le_of_ble_eq_true rfl⟩ hI hK 2 hL0.2.1.1 rfl hl.1 rfl rfl (Nat.le_of_ble_eq_true rfl) dX5_cutOff_18 ⟨Nat.le_of_ble_eq_true rfl, Nat.le_of_ble_eq_true rfl⟩) hI (fun H locs hI => ?_)
    refine lv_istore_n (lv' := [(3, .int (s_X1_holderOf v.1 p1)), (0, .ref a), (1, .int p1), (2, .ref b)]) hx hb dX5_cutOff_21 rfl hl (by decide) rfl (fun ls hl => ?_)
    refine lv_iload_n hx hb dX5_cutOff_22 rfl (lv_at hl 0 rfl) ?_
    refine lv_if_ge (tgt := 33) hx hb dX5_cutOff_23 (by decide) (fun c2 => ?_) (fun c2 => ?_)
    · rw [if_pos c2] at hR
      refine lv_aload_n hx hb dX5_cutOff_33 rfl (lv_at hl 1 rfl) ?_
      refine lv_iload_n hx hb dX5_cutOff_34 rfl (lv_at hl 2 rfl) ?_
      refine q_goN (q_runV (As := [.int p1]) (rest := []) hx hb hml hown hg (c_X5_expose l D cs hL0 p1) v_X5_expose wl_X5_84 rfl rfl ⟨Nat.le_of_ble_eq_true rfl, Nat.le_of_ble_eq_true rfl⟩ hI hK 6 hL0.1 rfl hl.1 rfl rfl (Nat.le_of_ble_eq_true rfl) dX5_cutOff_35 ⟨Nat.le_of_ble_eq_true rfl, Nat.le_of_ble_eq_true rfl⟩) hI (fun M H locs hp hI => ?_)
      obtain ⟨hn0, hF⟩ := hp
      generalize heg3 : s_X5_expose v p1 = g3 at hn0 hR
      have hn := hn0
      have hL0 := hn
      have hL1 := hL1.fr hF (fun q h1 h2 hq => by omega)
      have hS := hS.tr hF (fun q hq => by omega)
      refine lv_aload_n hx hb dX5_cutOff_38 rfl (lv_at hl 1 rfl) ?_
      refine q_get hx hb hg in_X5 hown hK hI hL0.1 rfl 1 (by decide) (hg _ wf_X5_21) (fun _ h9 => h9) rfl dX5_cutOff_39 ?_
      refine lv_iload_n hx hb dX5_cutOff_42 rfl (lv_at hl 2 rfl) ?_
      refine q_goN (q_runV (As := [.int p1]) (rest := []) hx hb hml hown hg (c_X8_takeLeftOff l D cs hL0.2.2.1 p1) v_X8_takeLeftOff wl_X5_99 rfl rfl ⟨Nat.le_of_ble_eq_true rfl, Nat.le_of_ble_eq_true rfl⟩ hI hK 9 hL0.2.2.1.1 rfl hl.1 rfl rfl (Nat.le_of_ble_eq_true rfl) dX5_cutOff_43 ⟨Nat.le_of_ble_eq_true rfl, Nat.le_of_ble_eq_true rfl⟩) hI (fun M H locs hp hI => ?_)
      obtain ⟨hn0, hF⟩ := hp
      generalize heg4 : s_X8_takeLeftOff g3.2.1 p1 = g4 at hn0 hR
      have hn := hn0
      have hn : qLQ cs M a (g3.1, g4, g3.2.2.1, g3.2.2.2.1, g3.2.2.2.2.1, g3.2.2.2.2.2) := qLQ.s1 (v := g3) hL0 hn (qFr.rf.tr hF (fun q hq => by omega))
      have hL0 := hn
      have hL1 := hL1.fr hF (fun q h1 h2 hq => by omega)
      have hS := hS.tr hF (fun q hq => by omega)
      refine lv_aload_n hx hb dX5_cutOff_46 rfl (lv_at hl 1 rfl) ?_
      refine q_get hx hb hg in_X5 hown hK hI hL0.1 rfl 0 (by decide) (hg _ wf_X5_12) (fun _ h9 => h9) rfl dX5_cutOff_47 ?_
      refine q_getN hx hb hg in_X1 hown hK hI hL0.2.1.1 rfl 1 (by decide) (hK.2 _ (List.mem_of_getElem? (i := 2) rfl)) (fun _ h9 => h9) rfl dX5_cutOff_50 ?_
      refine lv_iload_n hx hb dX5_cutOff_53 rfl (lv_at hl 2 rfl) ?_
      refine lv_iconst (v := (-1)) hx hb dX5_cutOff_54 (by decide) ?_
      refine q_goN (q_runSN (As := [.ref (a + 1 + 2), .int p1, .int (-1)]) (rest := []) hx hb hml hown hg (c_X10_put l D cs hL0.2.1.2.2 p1 (-1)) v_X10_put (hK.2 _ (List.mem_of_getElem? (i := 38) rfl)) rfl rfl ⟨Nat.le_of_ble_eq_true rfl, Nat.le_of_ble_eq_true rfl⟩ hI hK hl.1 rfl rfl (Nat.le_of_ble_eq_true rfl) dX5_cutOff_55 ⟨Nat.le_of_ble_eq_true rfl, Nat.le_of_ble_eq_true rfl⟩) hI (fun M H locs hp hI => ?_)
      obtain ⟨hn0, hF⟩ := hp
      generalize heg5 : rowPut g3.1.2.1 p1 (-1) = g5 at hn0 hR
      have hn := hn0
      have hn : qLB cs M (a + 1) (g3.1.1, g5, g3.1.2.2) := qLB.s1 (v := g3.1) hL0.2.1 hn (qFr.rf.tr hF (fun q hq => by omega))
      have hn : qLQ cs M a ((g3.1.1, g5, g3.1.2.2), g4, g3.2.2.1, g3.2.2.2.1, g3.2.2.2.2.1, g3.2.2.2.2.2) := qLQ.s0 (v := (g3.1, g4, g3.2.2.1, g3.2.2.2.1, g3.2.2.2.2.1, g3.2.2.2.2.2)) hL0 hn (qFr.rf.tr hF (fun q hq => by omega))
      have hL0 := hn
      have hL1 := hL1.fr hF (fun q h1 h2 hq => by omega)
      have hS := hS.tr hF (fun q hq => by omega)
      refine lv_aload_n hx hb dX5_cutOff_58 rfl (lv_at hl 1 rfl) ?_
      refine lv_dup hx hb dX5_cutOff_59 rfl ?_
      refine q_get hx hb hg in_X5 hown hK hI hL0.1 rfl 5 (by decide) (hg _ wf_X5_45) (fun _ h9 => h9) rfl dX5_cutOff_60 ?_
      refine lv_iconst (v := 1) hx hb dX5_cutOff_63 (by decide) ?_
      refine lv_iadd hx hb dX5_cutOff_64 ?_
      have hn := qLQ.i5 (g3.2.2.2.2.2 + 1) hL0
      refine q_put (v := .int (g3.2.2.2.2.2 + 1)) hx hb hg in_X5 tyX5_ok nmX5 hown hK hI hL0.1 rfl 5 (by decide) (hg _ wf_X5_45) (fun _ h9 => h9) rfl rfl rfl (Nat.le_of_ble_eq_true rfl) dX5_cutOff_65 (fun H locs hI => ?_)
      obtain ⟨M, hn, hF, hI⟩ : ∃ Mx : qM, qLQ cs Mx a ((g3.1.1, g5, g3.1.2.2), g4, g3.2.2.1, g3.2.2.2.1, g3.2.2.2.2.1, g3.2.2.2.2.2 + 1) ∧ qFr (qIn a 1) M Mx ∧ qI D M0 s.heap Mx N H locs := ⟨_, hn, qFr.up (by decide), hI⟩
      have hL0 := hn
      have hL1 := hL1.fr hF (fun q h1 h2 hq => by omega)
      have hS := hS.tr hF (fun q hq => by omega)
      refine lv_iload_n hx hb dX5_cutOff_68 rfl (lv_at hl 0 rfl) ?_
      exact q_iret hx hb hret hlk hN hI (by subst hR; exact ⟨rfl, ⟨hL0, hL1, hS⟩, rfl⟩) dX5_cutOff_69
    · rw [if_neg c2] at hR
      refine lv_aload_n hx hb dX5_cutOff_26 rfl (lv_at hl 3 rfl) ?_
      refine lv_iconst (v := 4) hx hb dX5_cutOff_27 (by decide) ?_
      refine lv_iload_n hx hb dX5_cutOff_28 rfl (lv_at hl 2 rfl) ?_
      refine q_goP (q_runV (As := [.int 4, .int p1]) (rest := []) hx hb hml hown hg (c_X6_refuse l D cs hL1 4 p1) v_X6_refuse wl_X5_65 rfl rfl ⟨Nat.le_of_ble_eq_true rfl, Nat.le_of_ble_eq_true rfl⟩ hI hK 7 hL1 rfl hl.1 rfl rfl (Nat.le_of_ble_eq_true rfl) dX5_cutOff_29 ⟨Nat.le_of_ble_eq_true rfl, Nat.le_of_ble_eq_true rfl⟩) hI (fun M H locs hp hI => ?_)
      obtain ⟨hn0, hF⟩ := hp
      generalize heg6 : s_X6_refuse u 4 p1 = g6 at hn0 hR ⊢
      have hn := hn0
      have hL1 := hn
      have hL0 := hL0.fr hF (fun q h1 h2 hq => by omega)
      have hS := hS.tr hF (fun q hq => by omega)
      exact q_iret hx hb hret hlk hN hI (by subst hR; exact ⟨rfl, ⟨hL0, hL1, hS⟩, rfl⟩) dX5_cutOff_32
  · rw [if_pos c1] at hR
    refine lv_iconst (v := (-1)) hx hb dX5_cutOff_11 (by decide) ?_
    exact q_iret hx hb hret hlk hN hI (by subst hR; exact ⟨rfl, ⟨hL0, hL1, hS⟩, rfl⟩) dX5_cutOff_12
def s_X5_walkTo (v : qQV) (p1 : Int32) : Int32 × qQV := (if (qbi (s_X1_isThere v.1 p1)) = 0 then ((-1), v) else (s_X1_sumByHolders (s_X5_expose v p1).1 p1, (s_X5_expose v p1)))
set_option maxHeartbeats 4000000 in
set_option maxRecDepth 20000 in
theorem c_X5_walkTo (l : Launch) (D : va_G) (cs : qC) {M0 : qM} {N a : Nat} {v : qQV} (hL0 : qLQ cs M0 a v) (p1 : Int32) :
    qMet l D cs yX5_walkTo (qws yX5_walkTo cX5_walkTo 2 (some .int)) ({ frames := 5, cells := 0, slots := 0, locals := 120 } : Room) M0 N [.ref a, .int p1] (qMod N (some (.int ((s_X5_walkTo v p1).1))) (fun M' => qLQ cs M' a ((s_X5_walkTo v p1).2) ∧ qFr (qIn a 13) M0 M')) 0 0 := by
  obtain ⟨R, hR⟩ : ∃ R, s_X5_walkTo v p1 = R := ⟨_, rfl⟩
  rw [hR]
  rw [s_X5_walkTo] at hR
  refine q_head (by decide +kernel) ?_ (Nat.le_of_ble_eq_true rfl)
  intro p e s m below meth c ls hx hb hret hlk hml hown hnm hg hK hN hI hl
  have hl : lv_has ls 2 [(0, .ref a), (1, .int p1)] := hl
  have hS : qFr (qIn a 13) M0 M0 := qFr.rf
  refine lv_aload_n hx hb dX5_walkTo_0 rfl (lv_at hl 0 rfl) ?_
  refine q_get hx hb hg in_X5 hown hK hI hL0.1 rfl 0 (by decide) (hg _ wf_X5_12) (fun _ h9 => h9) rfl dX5_walkTo_1 ?_
  refine lv_iload_n hx hb dX5_walkTo_4 rfl (lv_at hl 1 rfl) ?_
  refine q_goR (q_runV (As := [.int p1]) (rest := []) hx hb hml hown hg (c_X1_isThere l D cs hL0.2.1 p1) v_X1_isThere wl_X5_75 rfl rfl ⟨Nat.le_of_ble_eq_true rfl, Nat.le_of_ble_eq_true rfl⟩ hI hK 2 hL0.2.1.1 rfl hl.1 rfl rfl (Nat.le_of_ble_eq_true rfl) dX5_walkTo_5 ⟨Nat.le_of_ble_eq_true rfl, Nat.le_of_ble_eq_true rfl⟩) hI (fun H locs hI => ?_)
  refine lv_if_ne (tgt := 13) hx hb dX5_walkTo_8 (by decide) (fun c1 => ?_) (fun c1 => ?_)
  · rw [if_neg c1] at hR
    refine lv_aload_n hx hb dX5_walkTo_13 rfl (lv_at hl 0 rfl) ?_
    refine lv_iload_n hx hb dX5_walkTo_14 rfl (lv_at hl 1 rfl) ?_
    refine q_goN (q_runV (As := [.int p1]) (rest := []) hx hb hml hown hg (c_X5_expose l D cs hL0 p1) v_X5_expose wl_X5_84 rfl rfl ⟨Nat.le_of_ble_eq_true rfl, Nat.le_of_ble_eq_true rfl⟩ hI hK 6 hL0.1 rfl hl.1 rfl rfl (Nat.le_of_ble_eq_true rfl) dX5_walkTo_15 ⟨Nat.le_of_ble_eq_true rfl, Nat.le_of_ble_eq_true rfl⟩) hI (fun M H locs hp hI => ?_)
    obtain ⟨hn0, hF⟩ := hp
    generalize heg2 : s_X5_expose v p1 = g2 at hn0 hR
    have hn := hn0
    have hL0 := hn
    have hS := hS.tr hF (fun q hq => by omega)
    refine lv_aload_n hx hb dX5_walkTo_18 rfl (lv_at hl 0 rfl) ?_
    refine q_get hx hb hg in_X5 hown hK hI hL0.1 rfl 0 (by decide) (hg _ wf_X5_12) (fun _ h9 => h9) rfl dX5_walkTo_19 ?_
    refine lv_iload_n hx hb dX5_walkTo_22 rfl (lv_at hl 1 rfl) ?_
    refine q_goR (q_runV (As := [.int p1]) (rest := []) hx hb hml hown hg (c_X1_sumByHolders l D cs hL0.2.1 p1) v_X1_sumByHolders wl_X5_102 rfl rfl ⟨Nat.le_of_ble_eq_true rfl, Nat.le_of_ble_eq_true rfl⟩ hI hK 2 hL0.2.1.1 rfl hl.1 rfl rfl (Nat.le_of_ble_eq_true rfl) dX5_walkTo_23 ⟨Nat.le_of_ble_eq_true rfl, Nat.le_of_ble_eq_true rfl⟩) hI (fun H locs hI => ?_)
    exact q_iret hx hb hret hlk hN hI (by subst hR; exact ⟨rfl, ⟨hL0, hS⟩, rfl⟩) dX5_walkTo_26
  · rw [if_pos c1] at hR
    refine lv_iconst (v := (-1)) hx hb dX5_walkTo_11 (by decide) ?_
    exact q_iret hx hb hret hlk hN hI (by subst hR; exact ⟨rfl, ⟨hL0, hS⟩, rfl⟩) dX5_walkTo_12
def s_X5_goUp (v : qQV) (p1 : Int32) : Int32 × qQV := (if (qbi (s_X1_isThere v.1 p1)) = 0 then ((-1), v) else (s_X1_rootByHolders (s_X5_expose v p1).1 p1, ((s_X5_expose v p1).1, (s_X8_splay (s_X5_expose v p1).2.1 (s_X1_rootByHolders (s_X5_expose v p1).1 p1)), (s_X5_expose v p1).2.2.1, (s_X5_expose v p1).2.2.2.1, (s_X5_expose v p1).2.2.2.2.1, (s_X5_expose v p1).2.2.2.2.2)))
set_option maxHeartbeats 4000000 in
set_option maxRecDepth 20000 in
theorem c_X5_goUp (l : Launch) (D : va_G) (cs : qC) {M0 : qM} {N a : Nat} {v : qQV} (hL0 : qLQ cs M0 a v) (p1 : Int32) :
    qMet l D cs yX5_goUp (qws yX5_goUp cX5_goUp 3 (some .int)) ({ frames := 5, cells := 0, slots := 0, locals := 120 } : Room) M0 N [.ref a, .int p1] (qMod N (some (.int ((s_X5_goUp v p1).1))) (fun M' => qLQ cs M' a ((s_X5_goUp v p1).2) ∧ qFr (qIn a 13) M0 M')) 0 0 := by
  obtain ⟨R, hR⟩ : ∃ R, s_X5_goUp v p1 = R := ⟨_, rfl⟩
  rw [hR]
  rw [s_X5_goUp] at hR
  refine q_head (by decide +kernel) ?_ (Nat.le_of_ble_eq_true rfl)
  intro p e s m below meth c ls hx hb hret hlk hml hown hnm hg hK hN hI hl
  have hl : lv_has ls 3 [(0, .ref a), (1, .int p1)] := hl
  have hS : qFr (qIn a 13) M0 M0 := qFr.rf
  refine lv_aload_n hx hb dX5_goUp_0 rfl (lv_at hl 0 rfl) ?_
  refine q_get hx hb hg in_X5 hown hK hI hL0.1 rfl 0 (by decide) (hg _ wf_X5_12) (fun _ h9 => h9) rfl dX5_goUp_1 ?_
  refine lv_iload_n hx hb dX5_goUp_4 rfl (lv_at hl 1 rfl) ?_
  refine q_goR (q_runV (As := [.int p1]) (rest := []) hx hb hml hown hg (c_X1_isThere l D cs hL0.2.1 p1) v_X1_isThere wl_X5_75 rfl rfl ⟨Nat.le_of_ble_eq_true rfl, Nat.le_of_ble_eq_true rfl⟩ hI hK 2 hL0.2.1.1 rfl hl.1 rfl rfl (Nat.le_of_ble_eq_true rfl) dX5_goUp_5 ⟨Nat.le_of_ble_eq_true rfl, Nat.le_of_ble_eq_true rfl⟩) hI (fun H locs hI => ?_)
  refine lv_if_ne (tgt := 13) hx hb dX5_goUp_8 (by decide) (fun c1 => ?_) (fun c1 => ?_)
  · rw [if_neg c1] at hR
    refine lv_aload_n hx hb dX5_goUp_13 rfl (lv_at hl 0 rfl) ?_
    refine lv_iload_n hx hb dX5_goUp_14 rfl (lv_at hl 1 rfl) ?_
    refine q_goN (q_runV (As := [.int p1]) (rest := []) hx hb hml hown hg (c_X5_expose l D cs hL0 p1) v_X5_expose wl_X5_84 rfl rfl ⟨Nat.le_of_ble_eq_true rfl, Nat.le_of_ble_eq_true rfl⟩ hI hK 6 hL0.1 rfl hl.1 rfl rfl (Nat.le_of_ble_eq_true rfl) dX5_goUp_15 ⟨Nat.le_of_ble_eq_true rfl, Nat.le_of_ble_eq_true rfl⟩) hI (fun M H locs hp hI => ?_)
    obtain ⟨hn0, hF⟩ := hp
    generalize heg2 : s_X5_expose v p1 = g2 at hn0 hR
    have hn := hn0
    have hL0 := hn
    have hS := hS.tr hF (fun q hq => by omega)
    refine lv_aload_n hx hb dX5_goUp_18 rfl (lv_at hl 0 rfl) ?_
    refine q_get hx hb hg in_X5 hown hK hI hL0.1 rfl 0 (by decide) (hg _ wf_X5_12) (fun _ h9 => h9) rfl dX5_goUp_19 ?_
    refine lv_iload_n hx hb dX5_goUp_22 rfl (lv_at hl 1 rfl) ?_
    refine q_goR (q_runV (As := [.int p1]) (rest := []) hx hb hml hown hg (c_X1_rootByHolders l D cs hL0.2.1 p1) v_X1_rootByHolders wl_X5_81 rfl rfl ⟨Nat.le_of_ble_eq_true rfl, Nat.le_of_ble_eq_true rfl⟩ hI hK 2 hL0.2.1.1 rfl hl.1 rfl rfl (Nat.le_of_ble_eq_true rfl) dX5_goUp_23 ⟨Nat.le_of_ble_eq_true rfl, Nat.le_of_ble_eq_true rfl⟩) hI (fun H locs hI => ?_)
    refine lv_istore_n (lv' := [(2, .int (s_X1_rootByHolders g2.1 p1)), (0, .ref a), (1, .int p1)]) hx hb dX5_goUp_26 rfl hl (by decide) rfl (fun ls hl => ?_)
    refine lv_aload_n hx hb dX5_goUp_27 rfl (lv_at hl 1 rfl) ?_
    refine q_get hx hb hg in_X5 hown hK hI hL0.1 rfl 1 (by decide) (hg _ wf_X5_21) (fun _ h9 => h9) rfl dX5_goUp_28 ?_
    refine lv_iload_n hx hb dX5_goUp_31 rfl (lv_at hl 0 rfl) ?_
    refine q_goN (q_runV (As := [.int (s_X1_rootByHolders g2.1 p1)]) (rest := []) hx hb hml hown hg (c_X8_splay l D cs hL0.2.2.1 (s_X1_rootByHolders g2.1 p1)) v_X8_splay wl_X5_105 rfl rfl ⟨Nat.le_of_ble_eq_true rfl, Nat.le_of_ble_eq_true rfl⟩ hI hK 9 hL0.2.2.1.1 rfl hl.1 rfl rfl (Nat.le_of_ble_eq_true rfl) dX5_goUp_32 ⟨Nat.le_of_ble_eq_true rfl, Nat.le_of_ble_eq_true rfl⟩) hI (fun M H locs hp hI => ?_)
    obtain ⟨hn0, hF⟩ := hp
    generalize heg3 : s_X8_splay g2.2.1 (s_X1_rootByHolders g2.1 p1) = g3 at hn0 hR
    have hn := hn0
    have hn : qLQ cs M a (g2.1, g3, g2.2.2.1, g2.2.2.2.1, g2.2.2.2.2.1, g2.2.2.2.2.2) := qLQ.s1 (v := g2) hL0 hn (qFr.rf.tr hF (fun q hq => by omega))
    have hL0 := hn
    have hS := hS.tr hF (fun q hq => by omega)
    refine lv_iload_n hx hb dX5_goUp_35 rfl (lv_at hl 0 rfl) ?_
    exact q_iret hx hb hret hlk hN hI (by subst hR; exact ⟨rfl, ⟨hL0, hS⟩, rfl⟩) dX5_goUp_36
  · rw [if_pos c1] at hR
    refine lv_iconst (v := (-1)) hx hb dX5_goUp_11 (by decide) ?_
    exact q_iret hx hb hret hlk hN hI (by subst hR; exact ⟨rfl, ⟨hL0, hS⟩, rfl⟩) dX5_goUp_12
def s_X5_changeWeight (v : qQV) (u : qRV) (p1 : Int32) (p2 : Int32) : Int32 × qQV × qRV := (if (qbi (s_X1_isThere v.1 p1)) = 0 then ((-1), v, u) else (if (qbi (s_X5_isWeight  p2)) = 0 then ((-2), v, u) else (if (s_X1_weightOf v.1 p1) = p2 then ((s_X6_refuse u 5 p2).1, v, (s_X6_refuse u 5 p2).2) else (s_X1_weightOf v.1 p1, (((rowPut v.1.1 p1 p2), v.1.2.1, v.1.2.2), v.2.1, v.2.2.1, v.2.2.2.1, v.2.2.2.2.1, v.2.2.2.2.2), u))))
set_option maxHeartbeats 4000000 in
set_option maxRecDepth 20000 in
theorem c_X5_changeWeight (l : Launch) (D : va_G) (cs : qC) {M0 : qM} {N a b : Nat} {v : qQV} {u : qRV} (hL0 : qLQ cs M0 a v) (hL1 : qLR cs M0 b u) (hd0 : a + 13 ≤ b ∨ b + 1 ≤ a) (p1 : Int32) (p2 : Int32) :
    qMet l D cs yX5_changeWeight (qws yX5_changeWeight cX5_changeWeight 5 (some .int)) ({ frames := 2, cells := 0, slots := 0, locals := 42 } : Room) M0 N [.ref a, .int p1, .int p2, .ref b] (qMod N (some (.int ((s_X5_changeWeight v u p1 p2).1))) (fun M' => qLQ cs M' a ((s_X5_changeWeight v u p1 p2).2.1) ∧ qLR cs M' b ((s_X5_changeWeight v u p1 p2).2.2) ∧ qFr (fun q => qIn a 13 q ∨ qIn b 1 q) M0 M')) 0 0 := by
  obtain ⟨R, hR⟩ : ∃ R, s_X5_changeWeight v u p1 p2 = R := ⟨_, rfl⟩
  rw [hR]
  rw [s_X5_changeWeight] at hR
  refine q_head (by decide +kernel) ?_ (Nat.le_of_ble_eq_true rfl)
  intro p e s m below meth c ls hx hb hret hlk hml hown hnm hg hK hN hI hl
  have hl : lv_has ls 5 [(0, .ref a), (1, .int p1), (2, .int p2), (3, .ref b)] := hl
  have hS : qFr (fun q => qIn a 13 q ∨ qIn b 1 q) M0 M0 := qFr.rf
  refine lv_aload_n hx hb dX5_changeWeight_0 rfl (lv_at hl 0 rfl) ?_
  refine q_get hx hb hg in_X5 hown hK hI hL0.1 rfl 0 (by decide) (hg _ wf_X5_12) (fun _ h9 => h9) rfl dX5_changeWeight_1 ?_
  refine lv_iload_n hx hb dX5_changeWeight_4 rfl (lv_at hl 1 rfl) ?_
  refine q_goR (q_runV (As := [.int p1]) (rest := []) hx hb hml hown hg (c_X1_isThere l D cs hL0.2.1 p1) v_X1_isThere wl_X5_75 rfl rfl ⟨Nat.le_of_ble_eq_true rfl, Nat.le_of_ble_eq_true rfl⟩ hI hK 2 hL0.2.1.1 rfl hl.1 rfl rfl (Nat.le_of_ble_eq_true rfl) dX5_changeWeight_5 ⟨Nat.le_of_ble_eq_true rfl, Nat.le_of_ble_eq_true rfl⟩) hI (fun H locs hI => ?_)
  refine lv_if_ne (tgt := 13) hx hb dX5_changeWeight_8 (by decide) (fun c1 => ?_) (fun c1 => ?_)
  · rw [if_neg c1] at hR
    refine lv_iload_n hx hb dX5_changeWeight_13 rfl (lv_at hl 2 rfl) ?_
    refine q_goR (q_runS (As := [.int p2]) (rest := []) hx hb hml hown hg (c_X5_isWeight l D cs p2) v_X5_isWeight wl_X5_58 rfl rfl ⟨Nat.le_of_ble_eq_true rfl, Nat.le_of_ble_eq_true rfl⟩ hI hK hl.1 rfl rfl (Nat.le_of_ble_eq_true rfl) dX5_changeWeight_14 ⟨Nat.le_of_ble_eq_true rfl, Nat.le_of_ble_eq_true rfl⟩) hI (fun H locs hI => ?_)
    refine lv_if_ne (tgt := 23) hx hb dX5_changeWeight_17 (by decide) (fun c2 => ?_) (fun c2 => ?_)
    · rw [if_neg c2] at hR
      refine lv_aload_n hx hb dX5_changeWeight_23 rfl (lv_at hl 0 rfl) ?_
      refine q_get hx hb hg in_X5 hown hK hI hL0.1 rfl 0 (by decide) (hg _ wf_X5_12) (fun _ h9 => h9) rfl dX5_changeWeight_24 ?_
      refine lv_iload_n hx hb dX5_changeWeight_27 rfl (lv_at hl 1 rfl) ?_
      refine q_goR (q_runV (As := [.int p1]) (rest := []) hx hb hml hown hg (c_X1_weightOf l D cs hL0.2.1 p1) v_X1_weightOf wl_X5_108 rfl rfl ⟨Nat.le_of_ble_eq_true rfl, Nat.le_of_ble_eq_true rfl⟩ hI hK 2 hL0.2.1.1 rfl hl.1 rfl rfl (Nat.le_of_ble_eq_true rfl) dX5_changeWeight_28 ⟨Nat.le_of_ble_eq_true rfl, Nat.le_of_ble_eq_true rfl⟩) hI (fun H locs hI => ?_)
      refine lv_istore (lv' := [(4, .int (s_X1_weightOf v.1 p1)), (0, .ref a), (1, .int p1), (2, .int p2), (3, .ref b)]) hx hb dX5_changeWeight_31 hl (by decide) rfl (fun ls hl => ?_)
      refine lv_iload hx hb dX5_changeWeight_33 (lv_at hl 0 rfl) ?_
      refine lv_iload_n hx hb dX5_changeWeight_35 rfl (lv_at hl 3 rfl) ?_
      refine lv_icmp_ne (tgt := 46) hx hb dX5_changeWeight_36 (by decide) (fun c3 => ?_) (fun c3 => ?_)
      · rw [if_neg c3] at hR
        refine lv_aload_n hx hb dX5_changeWeight_46 rfl (lv_at hl 1 rfl) ?_
        refine q_get hx hb hg in_X5 hown hK hI hL0.1 rfl 0 (by decide) (hg _ wf_X5_12) (fun _ h9 => h9) rfl dX5_changeWeight_47 ?_
        refine q_getN hx hb hg in_X1 hown hK hI hL0.2.1.1 rfl 0 (by decide) (hK.2 _ (List.mem_of_getElem? (i := 1) rfl)) (fun _ h9 => h9) rfl dX5_changeWeight_50 ?_
        refine lv_iload_n hx hb dX5_changeWeight_53 rfl (lv_at hl 2 rfl) ?_
        refine lv_iload_n hx hb dX5_changeWeight_54 rfl (lv_at hl 3 rfl) ?_
        refine q_goN (q_runSN (As := [.ref (a + 1 + 1), .int p1, .int p2]) (rest := []) hx hb hml hown hg (c_X10_put l D cs hL0.2.1.2.1 p1 p2) v_X10_put (hK.2 _ (List.mem_of_getElem? (i := 38) rfl)) rfl rfl ⟨Nat.le_of_ble_eq_true rfl, Nat.le_of_ble_eq_true rfl⟩ hI hK hl.1 rfl rfl (Nat.le_of_ble_eq_true rfl) dX5_changeWeight_55 ⟨Nat.le_of_ble_eq_true rfl, Nat.le_of_ble_eq_true rfl⟩) hI (fun M H locs hp hI => ?_)
        obtain ⟨hn0, hF⟩ := hp
        generalize heg4 : rowPut v.1.1 p1 p2 = g4 at hn0 hR
        have hn := hn0
        have hn : qLB cs M (a + 1) (g4, v.1.2.1, v.1.2.2) := qLB.s0 (v := v.1) hL0.2.1 hn (qFr.rf.tr hF (fun q hq => by omega))
        have hn : qLQ cs M a ((g4, v.1.2.1, v.1.2.2), v.2.1, v.2.2.1, v.2.2.2.1, v.2.2.2.2.1, v.2.2.2.2.2) := qLQ.s0 (v := v) hL0 hn (qFr.rf.tr hF (fun q hq => by omega))
        have hL0 := hn
        have hL1 := hL1.fr hF (fun q h1 h2 hq => by omega)
        have hS := hS.tr hF (fun q hq => by omega)
        refine lv_iload hx hb dX5_changeWeight_58 (lv_at hl 0 rfl) ?_
        exact q_iret hx hb hret hlk hN hI (by subst hR; exact ⟨rfl, ⟨hL0, hL1, hS⟩, rfl⟩) dX5_changeWeight_60
      · rw [if_pos c3] at hR
        refine lv_aload_n hx hb dX5_changeWeight_39 rfl (lv_at hl 4 rfl) ?_
        refine lv_iconst (v := 5) hx hb dX5_changeWeight_40 (by decide) ?_
        refine lv_iload_n hx hb dX5_changeWeight_41 rfl (lv_at hl 3 rfl) ?_
        refine q_goP (q_runV (As := [.int 5, .int p2]) (rest := []) hx hb hml hown hg (c_X6_refuse l D cs hL1 5 p2) v_X6_refuse wl_X5_65 rfl rfl ⟨Nat.le_of_ble_eq_true rfl, Nat.le_of_ble_eq_true rfl⟩ hI hK 7 hL1 rfl hl.1 rfl rfl (Nat.le_of_ble_eq_true rfl) dX5_changeWeight_42 ⟨Nat.le_of_ble_eq_true rfl, Nat.le_of_ble_eq_true rfl⟩) hI (fun M H locs hp hI => ?_)
        obtain ⟨hn0, hF⟩ := hp
        generalize heg5 : s_X6_refuse u 5 p2 = g5 at hn0 hR ⊢
        have hn := hn0
        have hL1 := hn
        have hL0 := hL0.fr hF (fun q h1 h2 hq => by omega)
        have hS := hS.tr hF (fun q hq => by omega)
        exact q_iret hx hb hret hlk hN hI (by subst hR; exact ⟨rfl, ⟨hL0, hL1, hS⟩, rfl⟩) dX5_changeWeight_45
    · rw [if_pos c2] at hR
      refine lv_bipush (v := (-2)) hx hb dX5_changeWeight_20 (by decide) ?_
      exact q_iret hx hb hret hlk hN hI (by subst hR; exact ⟨rfl, ⟨hL0, hL1, hS⟩, rfl⟩) dX5_changeWeight_22
  · rw [if_pos c1] at hR
    refine lv_iconst (v := (-1)) hx hb dX5_changeWeight_11 (by decide) ?_
    exact q_iret hx hb hret hlk hN hI (by subst hR; exact ⟨rfl, ⟨hL0, hL1, hS⟩, rfl⟩) dX5_changeWeight_12
def s_X5_setSledge (v : qQV) (u : qRV) (p1 : Int32) : Int32 × qQV × qRV := (if (qbi (s_X1_isThere v.1 p1)) = 0 then ((-1), v, u) else (if v.2.2.1.2.2.2.2 < 3 then ((s_X7_add v.2.2.1 p1 (s_X1_weightOf v.1 p1)).1, (v.1, v.2.1, (s_X7_add v.2.2.1 p1 (s_X1_weightOf v.1 p1)).2, v.2.2.2.1, v.2.2.2.2.1, v.2.2.2.2.2), u) else ((s_X6_refuse u 1 3).1, v, (s_X6_refuse u 1 3).2)))
set_option maxHeartbeats 4000000 in
set_option maxRecDepth 20000 in
theorem c_X5_setSledge (l : Launch) (D : va_G) (cs : qC) {M0 : qM} {N a b : Nat} {v : qQV} {u : qRV} (hL0 : qLQ cs M0 a v) (hL1 : qLR cs M0 b u) (hd0 : a + 13 ≤ b ∨ b + 1 ≤ a) (p1 : Int32) :
    qMet l D cs yX5_setSledge (qws yX5_setSledge cX5_setSledge 3 (some .int)) ({ frames := 2, cells := 0, slots := 0, locals := 45 } : Room) M0 N [.ref a, .int p1, .ref b] (qMod N (some (.int ((s_X5_setSledge v u p1).1))) (fun M' => qLQ cs M' a ((s_X5_setSledge v u p1).2.1) ∧ qLR cs M' b ((s_X5_setSledge v u p1).2.2) ∧ qFr (fun q => qIn a 13 q ∨ qIn b 1 q) M0 M')) 0 0 := by
  obtain ⟨R, hR⟩ : ∃ R, s_X5_setSledge v u p1 = R := ⟨_, rfl⟩
  rw [hR]
  rw [s_X5_setSledge] at hR
  refine q_head (by decide +kernel) ?_ (Nat.le_of_ble_eq_true rfl)
  intro p e s m below meth c ls hx hb hret hlk hml hown hnm hg hK hN hI hl
  have hl : lv_has ls 3 [(0, .ref a), (1, .int p1), (2, .ref b)] := hl
  have hS : qFr (fun q => qIn a 13 q ∨ qIn b 1 q) M0 M0 := qFr.rf
  refine lv_aload_n hx hb dX5_setSledge_0 rfl (lv_at hl 0 rfl) ?_
  refine q_get hx hb hg in_X5 hown hK hI hL0.1 rfl 0 (by decide) (hg _ wf_X5_12) (fun _ h9 => h9) rfl dX5_setSledge_1 ?_
  refine lv_iload_n hx hb dX5_setSledge_4 rfl (lv_at hl 1 rfl) ?_
  refine q_goR (q_runV (As := [.int p1]) (rest := []) hx hb hml hown hg (c_X1_isThere l D cs hL0.2.1 p1) v_X1_isThere wl_X5_75 rfl rfl ⟨Nat.le_of_ble_eq_true rfl, Nat.le_of_ble_eq_true rfl⟩ hI hK 2 hL0.2.1.1 rfl hl.1 rfl rfl (Nat.le_of_ble_eq_true rfl) dX5_setSledge_5 ⟨Nat.le_of_ble_eq_true rfl, Nat.le_of_ble_eq_true rfl⟩) hI (fun H locs hI => ?_)
  refine lv_if_ne (tgt := 13) hx hb dX5_setSledge_8 (by decide) (fun c1 => ?_) (fun c1 => ?_)
  · rw [if_neg c1] at hR
    refine lv_aload_n hx hb dX5_setSledge_13 rfl (lv_at hl 0 rfl) ?_
    refine q_get hx hb hg in_X5 hown hK hI hL0.1 rfl 2 (by decide) (hg _ wf_X5_28) (fun _ h9 => h9) rfl dX5_setSledge_14 ?_
    refine q_getN hx hb hg in_X7 hown hK hI hL0.2.2.2.1 rfl 4 (by decide) (hK.2 _ (List.mem_of_getElem? (i := 8) rfl)) (fun _ h9 => h9) rfl dX5_setSledge_17 ?_
    refine lv_iconst (v := 3) hx hb dX5_setSledge_20 (by decide) ?_
    refine lv_icmp_lt (tgt := 31) hx hb dX5_setSledge_21 (by decide) (fun c2 => ?_) (fun c2 => ?_)
    · rw [if_pos c2] at hR
      refine lv_aload_n hx hb dX5_setSledge_31 rfl (lv_at hl 0 rfl) ?_
      refine q_get hx hb hg in_X5 hown hK hI hL0.1 rfl 2 (by decide) (hg _ wf_X5_28) (fun _ h9 => h9) rfl dX5_setSledge_32 ?_
      refine lv_iload_n hx hb dX5_setSledge_35 rfl (lv_at hl 1 rfl) ?_
      refine lv_aload_n hx hb dX5_setSledge_36 rfl (lv_at hl 0 rfl) ?_
      refine q_get hx hb hg in_X5 hown hK hI hL0.1 rfl 0 (by decide) (hg _ wf_X5_12) (fun _ h9 => h9) rfl dX5_setSledge_37 ?_
      refine lv_iload_n hx hb dX5_setSledge_40 rfl (lv_at hl 1 rfl) ?_
      refine q_goR (q_runV (As := [.int p1]) (rest := [.int p1, .ref (a + 8)]) hx hb hml hown hg (c_X1_weightOf l D cs hL0.2.1 p1) v_X1_weightOf wl_X5_108 rfl rfl ⟨Nat.le_of_ble_eq_true rfl, Nat.le_of_ble_eq_true rfl⟩ hI hK 2 hL0.2.1.1 rfl hl.1 rfl rfl (Nat.le_of_ble_eq_true rfl) dX5_setSledge_41 ⟨Nat.le_of_ble_eq_true rfl, Nat.le_of_ble_eq_true rfl⟩) hI (fun H locs hI => ?_)
      refine q_goP (q_runV (As := [.int p1, .int (s_X1_weightOf v.1 p1)]) (rest := []) hx hb hml hown hg (c_X7_add l D cs hL0.2.2.2 p1 (s_X1_weightOf v.1 p1)) v_X7_add wl_X5_115 rfl rfl ⟨Nat.le_of_ble_eq_true rfl, Nat.le_of_ble_eq_true rfl⟩ hI hK 8 hL0.2.2.2.1 rfl hl.1 rfl rfl (Nat.le_of_ble_eq_true rfl) dX5_setSledge_44 ⟨Nat.le_of_ble_eq_true rfl, Nat.le_of_ble_eq_true rfl⟩) hI (fun M H locs hp hI => ?_)
      obtain ⟨hn0, hF⟩ := hp
      generalize heg3 : s_X7_add v.2.2.1 p1 (s_X1_weightOf v.1 p1) = g3 at hn0 hR ⊢
      have hn := hn0
      have hn : qLQ cs M a (v.1, v.2.1, g3.2, v.2.2.2.1, v.2.2.2.2.1, v.2.2.2.2.2) := qLQ.s2 (v := v) hL0 hn (qFr.rf.tr hF (fun q hq => by omega))
      have hL0 := hn
      have hL1 := hL1.fr hF (fun q h1 h2 hq => by omega)
      have hS := hS.tr hF (fun q hq => by omega)
      exact q_iret hx hb hret hlk hN hI (by subst hR; exact ⟨rfl, ⟨hL0, hL1, hS⟩, rfl⟩) dX5_setSledge_47
    · rw [if_neg c2] at hR
      refine lv_aload_n hx hb dX5_setSledge_24 rfl (lv_at hl 2 rfl) ?_
      refine lv_iconst (v := 1) hx hb dX5_setSledge_25 (by decide) ?_
      refine lv_iconst (v := 3) hx hb dX5_setSledge_26 (by decide) ?_
      refine q_goP (q_runV (As := [.int 1, .int 3]) (rest := []) hx hb hml hown hg (c_X6_refuse l D cs hL1 1 3) v_X6_refuse wl_X5_65 rfl rfl ⟨Nat.le_of_ble_eq_true rfl, Nat.le_of_ble_eq_true rfl⟩ hI hK 7 hL1 rfl hl.1 rfl rfl (Nat.le_of_ble_eq_true rfl) dX5_setSledge_27 ⟨Nat.le_of_ble_eq_true rfl, Nat.le_of_ble_eq_true rfl⟩) hI (fun M H locs hp hI => ?_)
      obtain ⟨hn0, hF⟩ := hp
      generalize heg4 : s_X6_refuse u 1 3 = g4 at hn0 hR ⊢
      have hn := hn0
      have hL1 := hn
      have hL0 := hL0.fr hF (fun q h1 h2 hq => by omega)
      have hS := hS.tr hF (fun q hq => by omega)
      exact q_iret hx hb hret hlk hN hI (by subst hR; exact ⟨rfl, ⟨hL0, hL1, hS⟩, rfl⟩) dX5_setSledge_30
  · rw [if_pos c1] at hR
    refine lv_iconst (v := (-1)) hx hb dX5_setSledge_11 (by decide) ?_
    exact q_iret hx hb hret hlk hN hI (by subst hR; exact ⟨rfl, ⟨hL0, hL1, hS⟩, rfl⟩) dX5_setSledge_12
def s_X5_pullSledges_L34  : Nat → Int32 → Int32 → qQV → qRV → (Int32 × qQV × qRV)
  | 0, _, _, _, _ => default
  | n + 1, x2h34, x3h34, z0, z1 => (if 3 ≤ x3h34 then ((s_X7_countArrived z0.2.2.1) - x2h34, z0, z1) else (if (qbi (s_X7_isUnderway z0.2.2.1 x3h34)) = 0 then (s_X5_pullSledges_L34  n x2h34 (x3h34 + 1) z0 z1) else (s_X5_pullSledges_L34  n x2h34 (x3h34 + 1) ((s_X5_expose z0 (s_X7_placeAt z0.2.2.1 x3h34)).1, (s_X5_expose z0 (s_X7_placeAt z0.2.2.1 x3h34)).2.1, (s_X7_drag (s_X5_expose z0 (s_X7_placeAt z0.2.2.1 x3h34)).2.2.1 x3h34 (s_X1_holderOf (s_X5_expose z0 (s_X7_placeAt z0.2.2.1 x3h34)).1 (s_X7_placeAt z0.2.2.1 x3h34))), (s_X5_expose z0 (s_X7_placeAt z0.2.2.1 x3h34)).2.2.2.1, (s_X5_expose z0 (s_X7_placeAt z0.2.2.1 x3h34)).2.2.2.2.1, (s_X5_expose z0 (s_X7_placeAt z0.2.2.1 x3h34)).2.2.2.2.2) z1)))
def s_X5_pullSledges (v : qQV) (u : qRV)  : Int32 × qQV × qRV := (if (s_X7_countUnderway v.2.2.1) = 0 then ((s_X6_refuse u 6 (s_X7_countArrived v.2.2.1)).1, v, (s_X6_refuse u 6 (s_X7_countArrived v.2.2.1)).2) else (s_X5_pullSledges_L34  ((3 : Int32).toInt.toNat + 1) (s_X7_countArrived v.2.2.1) 0 v u))
set_option maxHeartbeats 4000000 in
set_option maxRecDepth 20000 in
theorem c_X5_pullSledges (l : Launch) (D : va_G) (cs : qC) {M0 : qM} {N a b : Nat} {v : qQV} {u : qRV} (hL0 : qLQ cs M0 a v) (hL1 : qLR cs M0 b u) (hd0 : a + 13 ≤ b ∨ b + 1 ≤ a) :
    qMet l D cs yX5_pullSledges (qws yX5_pullSledges cX5_pullSledges 5 (some .int)) ({ frames := 5, cells := 0, slots := 0, locals := 120 } : Room) M0 N [.ref a, .ref b] (qMod N (some (.int ((s_X5_pullSledges v u).1))) (fun M' => qLQ cs M' a ((s_X5_pullSledges v u).2.1) ∧ qLR cs M' b ((s_X5_pullSledges v u).2.2) ∧ qFr (fun q => qIn a 13 q ∨ qIn b 1 q) M0 M')) 0 0 := by
  obtain ⟨R, hR⟩ : ∃ R, s_X5_pullSledges v u = R := ⟨_, rfl⟩
  rw [hR]
  rw [s_X5_pullSledges] at hR
  refine q_head (by decide +kernel) ?_ (Nat.le_of_ble_eq_true rfl)
  intro p e s m below meth c ls hx hb hret hlk hml hown hnm hg hK hN hI hl
  have hl : lv_has ls 5 [(0, .ref a), (1, .ref b)] := hl
  have hS : qFr (fun q => qIn a 13 q ∨ qIn b 1 q) M0 M0 := qFr.rf
  refine lv_aload_n hx hb dX5_pullSledges_0 rfl (lv_at hl 0 rfl) ?_
  refine q_get hx hb hg in_X5 hown hK hI hL0.1 rfl 2 (by decide) (hg _ wf_X5_28) (fun _ h9 => h9) rfl dX5_pullSledges_1 ?_
  refine q_goR (q_runV (As := []) (rest := []) hx hb hml hown hg (c_X7_countUnderway l D cs hL0.2.2.2) v_X7_countUnderway wl_X5_117 rfl rfl ⟨Nat.le_of_ble_eq_true rfl, Nat.le_of_ble_eq_true rfl⟩ hI hK 8 hL0.2.2.2.1 rfl hl.1 rfl rfl (Nat.le_of_ble_eq_true rfl) dX5_pullSledges_4 ⟨Nat.le_of_ble_eq_true rfl, Nat.le_of_ble_eq_true rfl⟩) hI (fun H locs hI => ?_)
  refine lv_if_ne (tgt := 24) hx hb dX5_pullSledges_7 (by decide) (fun c1 => ?_) (fun c1 => ?_)
  · rw [if_neg c1] at hR
    refine lv_aload_n hx hb dX5_pullSledges_24 rfl (lv_at hl 0 rfl) ?_
    refine q_get hx hb hg in_X5 hown hK hI hL0.1 rfl 2 (by decide) (hg _ wf_X5_28) (fun _ h9 => h9) rfl dX5_pullSledges_25 ?_
    refine q_goR (q_runV (As := []) (rest := []) hx hb hml hown hg (c_X7_countArrived l D cs hL0.2.2.2) v_X7_countArrived wl_X5_121 rfl rfl ⟨Nat.le_of_ble_eq_true rfl, Nat.le_of_ble_eq_true rfl⟩ hI hK 8 hL0.2.2.2.1 rfl hl.1 rfl rfl (Nat.le_of_ble_eq_true rfl) dX5_pullSledges_28 ⟨Nat.le_of_ble_eq_true rfl, Nat.le_of_ble_eq_true rfl⟩) hI (fun H locs hI => ?_)
    refine lv_istore_n (lv' := [(2, .int (s_X7_countArrived v.2.2.1)), (0, .ref a), (1, .ref b)]) hx hb dX5_pullSledges_31 rfl hl (by decide) rfl (fun ls hl => ?_)
    refine lv_iconst (v := 0) hx hb dX5_pullSledges_32 (by decide) ?_
    refine lv_istore_n (lv' := [(3, .int 0), (2, .int (s_X7_countArrived v.2.2.1)), (0, .ref a), (1, .ref b)]) hx hb dX5_pullSledges_33 rfl hl (by decide) rfl (fun ls hl => ?_)
    have loop34 : ∀ (n34 : Nat) (x2h34 : Int32) (x3h34 : Int32) (z0 : qQV) (z1 : qRV), qmu 3 x3h34 < n34 → s_X5_pullSledges_L34  n34 x2h34 x3h34 z0 z1 = R → ∀ (M : qM) (H : Heap) (locs : List Loc) (ls : Array Slot), qLQ cs M a z0 → qLR cs M b z1 → qFr (fun q => qIn a 13 q ∨ qIn b 1 q) M0 M → qI D M0 s.heap M N H locs → lv_has ls 5 [(0, .ref a), (1, .ref b), (2, .int x2h34), (3, .int x3h34)] →
        W p l e ({ frames := 5, cells := 0, slots := 0, locals := 120 } : Room) s m [Value.ref a, Value.ref b].toArray below meth c H locs 0 0 (MQ below (qQ D M0 N (qMod N (some (.int R.1)) (fun M' => qLQ cs M' a R.2.1 ∧ qLR cs M' b R.2.2 ∧ qFr (fun q => qIn a 13 q ∨ qIn b 1 q) M0 M'))) [Value.ref a, Value.ref b].toArray s 0 0 (qA M0 N)) (F0 m 34 ls []) := by
      intro n34
      induction n34 with
      | zero => intro x2h34 x3h34 z0 z1 hm; exact absurd hm (Nat.not_lt_zero _)
      | succ n34 ih34 =>
        intro x2h34 x3h34 z0 z1 hm34 hR M H locs ls hL0 hL1 hS hI hl
        rw [s_X5_pullSledges_L34] at hR
        refine lv_iload_n hx hb dX5_pullSledges_34 rfl (lv_at hl 3 rfl) ?_
        refine lv_iconst (v := 3) hx hb dX5_pullSledges_35 (by decide) ?_
        refine lv_icmp_ge (tgt := 89) hx hb dX5_pullSledges_36 (by decide) (fun c2 => ?_) (fun c2 => ?_)
        · rw [if_pos c2] at hR
          refine lv_aload_n hx hb dX5_pullSledges_89 rfl (lv_at hl 0 rfl) ?_
          refine q_get hx hb hg in_X5 hown hK hI hL0.1 rfl 2 (by decide) (hg _ wf_X5_28) (fun _ h9 => h9) rfl dX5_pullSledges_90 ?_
          refine q_goR (q_runV (As := []) (rest := []) hx hb hml hown hg (c_X7_countArrived l D cs hL0.2.2.2) v_X7_countArrived wl_X5_121 rfl rfl ⟨Nat.le_of_ble_eq_true rfl, Nat.le_of_ble_eq_true rfl⟩ hI hK 8 hL0.2.2.2.1 rfl hl.1 rfl rfl (Nat.le_of_ble_eq_true rfl) dX5_pullSledges_93 ⟨Nat.le_of_ble_eq_true rfl, Nat.le_of_ble_eq_true rfl⟩) hI (fun H locs hI => ?_)
          refine lv_iload_n hx hb dX5_pullSledges_96 rfl (lv_at hl 2 rfl) ?_
          refine lv_isub hx hb dX5_pullSledges_97 ?_
          exact q_iret hx hb hret hlk hN hI (by subst hR; exact ⟨rfl, ⟨hL0, hL1, hS⟩, rfl⟩) dX5_pullSledges_98
        · rw [if_neg c2] at hR
          refine lv_aload_n hx hb dX5_pullSledges_39 rfl (lv_at hl 0 rfl) ?_
          refine q_get hx hb hg in_X5 hown hK hI hL0.1 rfl 2 (by decide) (hg _ wf_X5_28) (fun _ h9 => h9) rfl dX5_pullSledges_40 ?_
          refine lv_iload_n hx hb dX5_pullSledges_43 rfl (lv_at hl 3 rfl) ?_
          refine q_goR (q_runV (As := [.int x3h34]) (rest := []) hx hb hml hown hg (c_X7_isUnderway l D cs hL0.2.2.2 x3h34) v_X7_isUnderway wl_X5_124 rfl rfl ⟨Nat.le_of_ble_eq_true rfl, Nat.le_of_ble_eq_true rfl⟩ hI hK 8 hL0.2.2.2.1 rfl hl.1 rfl rfl (Nat.le_of_ble_eq_true rfl) dX5_pullSledges_44 ⟨Nat.le_of_ble_eq_true rfl, Nat.le_of_ble_eq_true rfl⟩) hI (fun H locs hI => ?_)
          refine lv_if_eq (tgt := 83) hx hb dX5_pullSledges_47 (by decide) (fun c3 => ?_) (fun c3 => ?_)
          · rw [if_pos c3] at hR
            refine lv_iinc (v := x3h34 + 1) (lv' := [(3, .int (x3h34 + 1)), (0, .ref a), (1, .ref b), (2, .int x2h34)]) hx hb dX5_pullSledges_83 hl (k := 3) rfl rfl (by decide) rfl (fun ls hl => ?_)
            refine lv_goto (tgt := 34) hx hb dX5_pullSledges_86 (by decide) ?_
            exact ih34 x2h34 (x3h34 + 1) z0 z1 (q_mu c2 hm34) hR _ _ _ _ hL0 hL1 hS hI (lv_sub hl [1, 2, 3, 0] rfl)
          · rw [if_neg c3] at hR
            refine lv_aload_n hx hb dX5_pullSledges_50 rfl (lv_at hl 0 rfl) ?_
            refine q_get hx hb hg in_X5 hown hK hI hL0.1 rfl 2 (by decide) (hg _ wf_X5_28) (fun _ h9 => h9) rfl dX5_pullSledges_51 ?_
            refine lv_iload_n hx hb dX5_pullSledges_54 rfl (lv_at hl 3 rfl) ?_
            refine q_goR (q_runV (As := [.int x3h34]) (rest := []) hx hb hml hown hg (c_X7_placeAt l D cs hL0.2.2.2 x3h34) v_X7_placeAt wl_X5_127 rfl rfl ⟨Nat.le_of_ble_eq_true rfl, Nat.le_of_ble_eq_true rfl⟩ hI hK 8 hL0.2.2.2.1 rfl hl.1 rfl rfl (Nat.le_of_ble_eq_true rfl) dX5_pullSledges_55 ⟨Nat.le_of_ble_eq_true rfl, Nat.le_of_ble_eq_true rfl⟩) hI (fun H locs hI => ?_)
            refine lv_istore (lv' := [(4, .int (s_X7_placeAt z0.2.2.1 x3h34)), (0, .ref a), (1, .ref b), (2, .int x2h34), (3, .int x3h34)]) hx hb dX5_pullSledges_58 hl (by decide) rfl (fun ls hl => ?_)
            refine lv_aload_n hx hb dX5_pullSledges_60 rfl (lv_at hl 1 rfl) ?_
            refine lv_iload hx hb dX5_pullSledges_61 (lv_at hl 0 rfl) ?_
            refine q_goN (q_runV (As := [.int (s_X7_placeAt z0.2.2.1 x3h34)]) (rest := []) hx hb hml hown hg (c_X5_expose l D cs hL0 (s_X7_placeAt z0.2.2.1 x3h34)) v_X5_expose wl_X5_84 rfl rfl ⟨Nat.le_of_ble_eq_true rfl, Nat.le_of_ble_eq_true rfl⟩ hI hK 6 hL0.1 rfl hl.1 rfl rfl (Nat.le_of_ble_eq_true rfl) dX5_pullSledges_63 ⟨Nat.le_of_ble_eq_true rfl, Nat.le_of_ble_eq_true rfl⟩) hI (fun M H locs hp hI => ?_)
            obtain ⟨hn0, hF⟩ := hp
            generalize heg4 : s_X5_expose z0 (s_X7_placeAt z0.2.2.1 x3h34) = g4 at hn0 hR
            have hn := hn0
            have hL0 := hn
            have hL1 := hL1.fr hF (fun q h1 h2 hq => by omega)
            have hS := hS.tr hF (fun q hq => by omega)
            refine lv_aload_n hx hb dX5_pullSledges_66 rfl (lv_at hl 1 rfl) ?_
            refine q_get hx hb hg in_X5 hown hK hI hL0.1 rfl 2 (by decide) (hg _ wf_X5_28) (fun _ h9 => h9) rfl dX5_pullSledges_67 ?_
            refine lv_iload_n hx hb dX5_pullSledges_70 rfl (lv_at hl 4 rfl) ?_
            refine lv_aload_n hx hb dX5_pullSledges_71 rfl (lv_at hl 1 rfl) ?_
            refine q_get hx hb hg in_X5 hown hK hI hL0.1 rfl 0 (by decide) (hg _ wf_X5_12) (fun _ h9 => h9) rfl dX5_pullSledges_72 ?_
            refine lv_iload hx hb dX5_pullSledges_75 (lv_at hl 0 rfl) ?_
            refine q_goR (q_runV (As := [.int (s_X7_placeAt z0.2.2.1 x3h34)]) (rest := [.int x3h34, .ref (a + 8)]) hx hb hml hown hg (c_X1_holderOf l D cs hL0.2.1 (s_X7_placeAt z0.2.2.1 x3h34)) v_X1_holderOf wl_X5_78 rfl rfl ⟨Nat.le_of_ble_eq_true rfl, Nat.le_of_ble_eq_true rfl⟩ hI hK 2 hL0.2.1.1 rfl hl.1 rfl rfl (Nat.le_of_ble_eq_true rfl) dX5_pullSledges_77 ⟨Nat.le_of_ble_eq_true rfl, Nat.le_of_ble_eq_true rfl⟩) hI (fun H locs hI => ?_)
            refine q_goN (q_runV (As := [.int x3h34, .int (s_X1_holderOf g4.1 (s_X7_placeAt z0.2.2.1 x3h34))]) (rest := []) hx hb hml hown hg (c_X7_drag l D cs hL0.2.2.2 x3h34 (s_X1_holderOf g4.1 (s_X7_placeAt z0.2.2.1 x3h34))) v_X7_drag wl_X5_130 rfl rfl ⟨Nat.le_of_ble_eq_true rfl, Nat.le_of_ble_eq_true rfl⟩ hI hK 8 hL0.2.2.2.1 rfl hl.1 rfl rfl (Nat.le_of_ble_eq_true rfl) dX5_pullSledges_80 ⟨Nat.le_of_ble_eq_true rfl, Nat.le_of_ble_eq_true rfl⟩) hI (fun M H locs hp hI => ?_)
            obtain ⟨hn0, hF⟩ := hp
            generalize heg5 : s_X7_drag g4.2.2.1 x3h34 (s_X1_holderOf g4.1 (s_X7_placeAt z0.2.2.1 x3h34)) = g5 at hn0 hR
            have hn := hn0
            have hn : qLQ cs M a (g4.1, g4.2.1, g5, g4.2.2.2.1, g4.2.2.2.2.1, g4.2.2.2.2.2) := qLQ.s2 (v := g4) hL0 hn (qFr.rf.tr hF (fun q hq => by omega))
            have hL0 := hn
            have hL1 := hL1.fr hF (fun q h1 h2 hq => by omega)
            have hS := hS.tr hF (fun q hq => by omega)
            refine lv_iinc (v := x3h34 + 1) (lv' := [(3, .int (x3h34 + 1)), (4, .int (s_X7_placeAt z0.2.2.1 x3h34)), (0, .ref a), (1, .ref b), (2, .int x2h34)]) hx hb dX5_pullSledges_83 hl (k := 4) rfl rfl (by decide) rfl (fun ls hl => ?_)
            refine lv_goto (tgt := 34) hx hb dX5_pullSledges_86 (by decide) ?_
            exact ih34 x2h34 (x3h34 + 1) (g4.1, g4.2.1, g5, g4.2.2.2.1, g4.2.2.2.2.1, g4.2.2.2.2.2) z1 (q_mu c2 hm34) hR _ _ _ _ hL0 hL1 hS hI (lv_sub hl [2, 3, 4, 0] rfl)
    exact loop34 _ (s_X7_countArrived v.2.2.1) 0 v u (q_fuel _) hR _ _ _ _ hL0 hL1 hS hI (lv_sub hl [2, 3, 1, 0] rfl)
  · rw [if_pos c1] at hR
    refine lv_aload_n hx hb dX5_pullSledges_10 rfl (lv_at hl 1 rfl) ?_
    refine lv_bipush (v := 6) hx hb dX5_pullSledges_11 (by decide) ?_
    refine lv_aload_n hx hb dX5_pullSledges_13 rfl (lv_at hl 0 rfl) ?_
    refine q_get hx hb hg in_X5 hown hK hI hL0.1 rfl 2 (by decide) (hg _ wf_X5_28) (fun _ h9 => h9) rfl dX5_pullSledges_14 ?_
    refine q_goR (q_runV (As := []) (rest := [.int 6, .ref b]) hx hb hml hown hg (c_X7_countArrived l D cs hL0.2.2.2) v_X7_countArrived wl_X5_121 rfl rfl ⟨Nat.le_of_ble_eq_true rfl, Nat.le_of_ble_eq_true rfl⟩ hI hK 8 hL0.2.2.2.1 rfl hl.1 rfl rfl (Nat.le_of_ble_eq_true rfl) dX5_pullSledges_17 ⟨Nat.le_of_ble_eq_true rfl, Nat.le_of_ble_eq_true rfl⟩) hI (fun H locs hI => ?_)
    refine q_goP (q_runV (As := [.int 6, .int (s_X7_countArrived v.2.2.1)]) (rest := []) hx hb hml hown hg (c_X6_refuse l D cs hL1 6 (s_X7_countArrived v.2.2.1)) v_X6_refuse wl_X5_65 rfl rfl ⟨Nat.le_of_ble_eq_true rfl, Nat.le_of_ble_eq_true rfl⟩ hI hK 7 hL1 rfl hl.1 rfl rfl (Nat.le_of_ble_eq_true rfl) dX5_pullSledges_20 ⟨Nat.le_of_ble_eq_true rfl, Nat.le_of_ble_eq_true rfl⟩) hI (fun M H locs hp hI => ?_)
    obtain ⟨hn0, hF⟩ := hp
    generalize heg6 : s_X6_refuse u 6 (s_X7_countArrived v.2.2.1) = g6 at hn0 hR ⊢
    have hn := hn0
    have hL1 := hn
    have hL0 := hL0.fr hF (fun q h1 h2 hq => by omega)
    have hS := hS.tr hF (fun q hq => by omega)
    exact q_iret hx hb hret hlk hN hI (by subst hR; exact ⟨rfl, ⟨hL0, hL1, hS⟩, rfl⟩) dX5_pullSledges_23
def s_X5_countRopes_L4 (v : qQV) : Nat → Int32 → Int32 → Int32
  | 0, _, _ => default
  | n + 1, x1h4, x2h4 => (if v.1.2.2 ≤ x2h4 then x1h4 else (if 0 ≤ (s_X8_upperOf v.2.1 x2h4) then (s_X5_countRopes_L4 v n (x1h4 + 0) (x2h4 + 1)) else (s_X5_countRopes_L4 v n (x1h4 + 1) (x2h4 + 1))))
def s_X5_countRopes (v : qQV)  : Int32 := (s_X5_countRopes_L4 v (v.1.2.2.toInt.toNat + 1) 0 0)
set_option maxHeartbeats 4000000 in
set_option maxRecDepth 20000 in
theorem c_X5_countRopes (l : Launch) (D : va_G) (cs : qC) {M0 : qM} {N a : Nat} {v : qQV} (hL0 : qLQ cs M0 a v) :
    qMet l D cs yX5_countRopes (qws yX5_countRopes cX5_countRopes 3 (some .int)) ({ frames := 2, cells := 0, slots := 0, locals := 42 } : Room) M0 N [.ref a] (qRet M0 N (.int (s_X5_countRopes v))) 0 0 := by
  obtain ⟨R, hR⟩ : ∃ R, s_X5_countRopes v = R := ⟨_, rfl⟩
  rw [hR]
  rw [s_X5_countRopes] at hR
  refine q_head (by decide +kernel) ?_ (Nat.le_of_ble_eq_true rfl)
  intro p e s m below meth c ls hx hb hret hlk hml hown hnm hg hK hN hI hl
  have hl : lv_has ls 3 [(0, .ref a)] := hl
  refine lv_iconst (v := 0) hx hb dX5_countRopes_0 (by decide) ?_
  refine lv_istore_n (lv' := [(1, .int 0), (0, .ref a)]) hx hb dX5_countRopes_1 rfl hl (by decide) rfl (fun ls hl => ?_)
  refine lv_iconst (v := 0) hx hb dX5_countRopes_2 (by decide) ?_
  refine lv_istore_n (lv' := [(2, .int 0), (1, .int 0), (0, .ref a)]) hx hb dX5_countRopes_3 rfl hl (by decide) rfl (fun ls hl => ?_)
  have loop4 : ∀ (n4 : Nat) (x1h4 : Int32) (x2h4 : Int32), qmu v.1.2.2 x2h4 < n4 → s_X5_countRopes_L4 v n4 x1h4 x2h4 = R → ∀ (H : Heap) (locs : List Loc) (ls : Array Slot), qI D M0 s.heap M0 N H locs → lv_has ls 3 [(0, .ref a), (1, .int x1h4), (2, .int x2h4)] →
      W p l e ({ frames := 2, cells := 0, slots := 0, locals := 42 } : Room) s m [Value.ref a].toArray below meth c H locs 0 0 (MQ below (qQ D M0 N (qRet M0 N (.int R))) [Value.ref a].toArray s 0 0 (qA M0 N)) (F0 m 4 ls []) := by
    intro n4
    induction n4 with
    | zero => intro x1h4 x2h4 hm; exact absurd hm (Nat.not_lt_zero _)
    | succ n4 ih4 =>
      intro x1h4 x2h4 hm4 hR H locs ls  hI hl
      rw [s_X5_countRopes_L4] at hR
      refine lv_iload_n hx hb dX5_countRopes_4 rfl (lv_at hl 2 rfl) ?_
      refine lv_aload_n hx hb dX5_countRopes_5 rfl (lv_at hl 0 rfl) ?_
      refine q_get hx hb hg in_X5 hown hK hI hL0.1 rfl 0 (by decide) (hg _ wf_X5_12) (fun _ h9 => h9) rfl dX5_countRopes_6 ?_
      refine q_getN hx hb hg in_X1 hown hK hI hL0.2.1.1 rfl 2 (by decide) (hK.2 _ (List.mem_of_getElem? (i := 3) rfl)) (fun _ h9 => h9) rfl dX5_countRopes_9 ?_
      refine lv_icmp_ge (tgt := 40) hx hb dX5_countRopes_12 (by decide) (fun c1 => ?_) (fun c1 => ?_)
      · rw [if_pos c1] at hR
        refine lv_iload_n hx hb dX5_countRopes_40 rfl (lv_at hl 1 rfl) ?_
        exact q_iret hx hb hret hlk hN hI (by subst hR; exact ⟨rfl, rfl, rfl⟩) dX5_countRopes_41
      · rw [if_neg c1] at hR
        refine lv_iload_n hx hb dX5_countRopes_15 rfl (lv_at hl 1 rfl) ?_
        refine lv_aload_n hx hb dX5_countRopes_16 rfl (lv_at hl 0 rfl) ?_
        refine q_get hx hb hg in_X5 hown hK hI hL0.1 rfl 1 (by decide) (hg _ wf_X5_21) (fun _ h9 => h9) rfl dX5_countRopes_17 ?_
        refine lv_iload_n hx hb dX5_countRopes_20 rfl (lv_at hl 2 rfl) ?_
        refine q_goR (q_runV (As := [.int x2h4]) (rest := [.int x1h4]) hx hb hml hown hg (c_X8_upperOf l D cs hL0.2.2.1 x2h4) v_X8_upperOf wl_X5_143 rfl rfl ⟨Nat.le_of_ble_eq_true rfl, Nat.le_of_ble_eq_true rfl⟩ hI hK 9 hL0.2.2.1.1 rfl hl.1 rfl rfl (Nat.le_of_ble_eq_true rfl) dX5_countRopes_21 ⟨Nat.le_of_ble_eq_true rfl, Nat.le_of_ble_eq_true rfl⟩) hI (fun H locs hI => ?_)
        refine lv_if_ge (tgt := 31) hx hb dX5_countRopes_24 (by decide) (fun c2 => ?_) (fun c2 => ?_)
        · rw [if_pos c2] at hR
          refine lv_iconst (v := 0) hx hb dX5_countRopes_31 (by decide) ?_
          refine lv_iadd hx hb dX5_countRopes_32 ?_
          refine lv_istore_n (lv' := [(1, .int (x1h4 + 0)), (0, .ref a), (2, .int x2h4)]) hx hb dX5_countRopes_33 rfl hl (by decide) rfl (fun ls hl => ?_)
          refine lv_iinc (v := x2h4 + 1) (lv' := [(2, .int (x2h4 + 1)), (1, .int (x1h4 + 0)), (0, .ref a)]) hx hb dX5_countRopes_34 hl (k := 2) rfl rfl (by decide) rfl (fun ls hl => ?_)
          refine lv_goto (tgt := 4) hx hb dX5_countRopes_37 (by decide) ?_
          exact ih4 (x1h4 + 0) (x2h4 + 1) (q_mu c1 hm4) hR _ _ _  hI (lv_sub hl [2, 1, 0] rfl)
        · rw [if_neg c2] at hR
          refine lv_iconst (v := 1) hx hb dX5_countRopes_27 (by decide) ?_
          refine lv_goto (tgt := 32) hx hb dX5_countRopes_28 (by decide) ?_
          refine lv_iadd hx hb dX5_countRopes_32 ?_
          refine lv_istore_n (lv' := [(1, .int (x1h4 + 1)), (0, .ref a), (2, .int x2h4)]) hx hb dX5_countRopes_33 rfl hl (by decide) rfl (fun ls hl => ?_)
          refine lv_iinc (v := x2h4 + 1) (lv' := [(2, .int (x2h4 + 1)), (1, .int (x1h4 + 1)), (0, .ref a)]) hx hb dX5_countRopes_34 hl (k := 2) rfl rfl (by decide) rfl (fun ls hl => ?_)
          refine lv_goto (tgt := 4) hx hb dX5_countRopes_37 (by decide) ?_
          exact ih4 (x1h4 + 1) (x2h4 + 1) (q_mu c1 hm4) hR _ _ _  hI (lv_sub hl [2, 1, 0] rfl)
  exact loop4 _ 0 0 (q_fuel _) hR _ _ _  hI (lv_sub hl [2, 1, 0] rfl)
def s_X5_countRopesUp_L4 (v : qQV) (p1 : Int32) : Nat → Int32 → Int32 → Int32
  | 0, _, _ => default
  | n + 1, x2h4, x3h4 => (if 16 ≤ x2h4 then x2h4 else (if x3h4 < 0 then x2h4 else (s_X5_countRopesUp_L4 v p1 n (x2h4 + 1) (s_X1_holderOf v.1 (s_X8_topOf v.2.1 x3h4)))))
def s_X5_countRopesUp (v : qQV) (p1 : Int32) : Int32 := (s_X5_countRopesUp_L4 v p1 ((16 : Int32).toInt.toNat + 1) 0 p1)
set_option maxHeartbeats 4000000 in
set_option maxRecDepth 20000 in
theorem c_X5_countRopesUp (l : Launch) (D : va_G) (cs : qC) {M0 : qM} {N a : Nat} {v : qQV} (hL0 : qLQ cs M0 a v) (p1 : Int32) :
    qMet l D cs yX5_countRopesUp (qws yX5_countRopesUp cX5_countRopesUp 4 (some .int)) ({ frames := 4, cells := 0, slots := 0, locals := 86 } : Room) M0 N [.ref a, .int p1] (qRet M0 N (.int (s_X5_countRopesUp v p1))) 0 0 := by
  obtain ⟨R, hR⟩ : ∃ R, s_X5_countRopesUp v p1 = R := ⟨_, rfl⟩
  rw [hR]
  rw [s_X5_countRopesUp] at hR
  refine q_head (by decide +kernel) ?_ (Nat.le_of_ble_eq_true rfl)
  intro p e s m below meth c ls hx hb hret hlk hml hown hnm hg hK hN hI hl
  have hl : lv_has ls 4 [(0, .ref a), (1, .int p1)] := hl
  refine lv_iconst (v := 0) hx hb dX5_countRopesUp_0 (by decide) ?_
  refine lv_istore_n (lv' := [(2, .int 0), (0, .ref a), (1, .int p1)]) hx hb dX5_countRopesUp_1 rfl hl (by decide) rfl (fun ls hl => ?_)
  refine lv_iload_n hx hb dX5_countRopesUp_2 rfl (lv_at hl 2 rfl) ?_
  refine lv_istore_n (lv' := [(3, .int p1), (2, .int 0), (0, .ref a), (1, .int p1)]) hx hb dX5_countRopesUp_3 rfl hl (by decide) rfl (fun ls hl => ?_)
  have loop4 : ∀ (n4 : Nat) (x2h4 : Int32) (x3h4 : Int32), qmu 16 x2h4 < n4 → s_X5_countRopesUp_L4 v p1 n4 x2h4 x3h4 = R → ∀ (H : Heap) (locs : List Loc) (ls : Array Slot), qI D M0 s.heap M0 N H locs → lv_has ls 4 [(0, .ref a), (1, .int p1), (2, .int x2h4), (3, .int x3h4)] →
      W p l e ({ frames := 4, cells := 0, slots := 0, locals := 86 } : Room) s m [Value.ref a, Value.int p1].toArray below meth c H locs 0 0 (MQ below (qQ D M0 N (qRet M0 N (.int R))) [Value.ref a, Value.int p1].toArray s 0 0 (qA M0 N)) (F0 m 4 ls []) := by
    intro n4
    induction n4 with
    | zero => intro x2h4 x3h4 hm; exact absurd hm (Nat.not_lt_zero _)
    | succ n4 ih4 =>
      intro x2h4 x3h4 hm4 hR H locs ls  hI hl
      rw [s_X5_countRopesUp_L4] at hR
      refine lv_iload_n hx hb dX5_countRopesUp_4 rfl (lv_at hl 2 rfl) ?_
      refine lv_bipush (v := 16) hx hb dX5_countRopesUp_5 (by decide) ?_
      refine lv_icmp_ge (tgt := 36) hx hb dX5_countRopesUp_7 (by decide) (fun c1 => ?_) (fun c1 => ?_)
      · rw [if_pos c1] at hR
        refine lv_iload_n hx hb dX5_countRopesUp_36 rfl (lv_at hl 2 rfl) ?_
        exact q_iret hx hb hret hlk hN hI (by subst hR; exact ⟨rfl, rfl, rfl⟩) dX5_countRopesUp_37
      · rw [if_neg c1] at hR
        refine lv_iload_n hx hb dX5_countRopesUp_10 rfl (lv_at hl 3 rfl) ?_
        refine lv_if_lt (tgt := 36) hx hb dX5_countRopesUp_11 (by decide) (fun c2 => ?_) (fun c2 => ?_)
        · rw [if_pos c2] at hR
          refine lv_iload_n hx hb dX5_countRopesUp_36 rfl (lv_at hl 2 rfl) ?_
          exact q_iret hx hb hret hlk hN hI (by subst hR; exact ⟨rfl, rfl, rfl⟩) dX5_countRopesUp_37
        · rw [if_neg c2] at hR
          refine lv_iinc (v := x2h4 + 1) (lv' := [(2, .int (x2h4 + 1)), (0, .ref a), (1, .int p1), (3, .int x3h4)]) hx hb dX5_countRopesUp_14 hl (k := 2) rfl rfl (by decide) rfl (fun ls hl => ?_)
          refine lv_aload_n hx hb dX5_countRopesUp_17 rfl (lv_at hl 1 rfl) ?_
          refine q_get hx hb hg in_X5 hown hK hI hL0.1 rfl 0 (by decide) (hg _ wf_X5_12) (fun _ h9 => h9) rfl dX5_countRopesUp_18 ?_
          refine lv_aload_n hx hb dX5_countRopesUp_21 rfl (lv_at hl 1 rfl) ?_
          refine q_get hx hb hg in_X5 hown hK hI hL0.1 rfl 1 (by decide) (hg _ wf_X5_21) (fun _ h9 => h9) rfl dX5_countRopesUp_22 ?_
          refine lv_iload_n hx hb dX5_countRopesUp_25 rfl (lv_at hl 3 rfl) ?_
          refine q_goR (q_runV (As := [.int x3h4]) (rest := [.ref (a + 1)]) hx hb hml hown hg (c_X8_topOf l D cs hL0.2.2.1 x3h4) v_X8_topOf wl_X5_137 rfl rfl ⟨Nat.le_of_ble_eq_true rfl, Nat.le_of_ble_eq_true rfl⟩ hI hK 9 hL0.2.2.1.1 rfl hl.1 rfl rfl (Nat.le_of_ble_eq_true rfl) dX5_countRopesUp_26 ⟨Nat.le_of_ble_eq_true rfl, Nat.le_of_ble_eq_true rfl⟩) hI (fun H locs hI => ?_)
          refine q_goR (q_runV (As := [.int (s_X8_topOf v.2.1 x3h4)]) (rest := []) hx hb hml hown hg (c_X1_holderOf l D cs hL0.2.1 (s_X8_topOf v.2.1 x3h4)) v_X1_holderOf wl_X5_78 rfl rfl ⟨Nat.le_of_ble_eq_true rfl, Nat.le_of_ble_eq_true rfl⟩ hI hK 2 hL0.2.1.1 rfl hl.1 rfl rfl (Nat.le_of_ble_eq_true rfl) dX5_countRopesUp_29 ⟨Nat.le_of_ble_eq_true rfl, Nat.le_of_ble_eq_true rfl⟩) hI (fun H locs hI => ?_)
          refine lv_istore_n (lv' := [(3, .int (s_X1_holderOf v.1 (s_X8_topOf v.2.1 x3h4))), (2, .int (x2h4 + 1)), (0, .ref a), (1, .int p1)]) hx hb dX5_countRopesUp_32 rfl hl (by decide) rfl (fun ls hl => ?_)
          refine lv_goto (tgt := 4) hx hb dX5_countRopesUp_33 (by decide) ?_
          exact ih4 (x2h4 + 1) (s_X1_holderOf v.1 (s_X8_topOf v.2.1 x3h4)) (q_mu c1 hm4) hR _ _ _  hI (lv_sub hl [2, 3, 1, 0] rfl)
  exact loop4 _ 0 p1 (q_fuel _) hR _ _ _  hI (lv_sub hl [2, 3, 1, 0] rfl)
def s_X5_weightBelow_L4 (v : qQV) (p1 : Int32) : Nat → Int32 → Int32 → Int32
  | 0, _, _ => default
  | n + 1, x2h4, x3h4 => (if v.1.2.2 ≤ x3h4 then x2h4 else (if (qbi (s_X8_isAtOrBelow v.2.1 x3h4 p1)) = 0 then (s_X5_weightBelow_L4 v p1 n (x2h4 + 0) (x3h4 + 1)) else (s_X5_weightBelow_L4 v p1 n (x2h4 + (s_X1_weightOf v.1 x3h4)) (x3h4 + 1))))
def s_X5_weightBelow (v : qQV) (p1 : Int32) : Int32 := (s_X5_weightBelow_L4 v p1 (v.1.2.2.toInt.toNat + 1) 0 0)
set_option maxHeartbeats 4000000 in
set_option maxRecDepth 20000 in
theorem c_X5_weightBelow (l : Launch) (D : va_G) (cs : qC) {M0 : qM} {N a : Nat} {v : qQV} (hL0 : qLQ cs M0 a v) (p1 : Int32) :
    qMet l D cs yX5_weightBelow (qws yX5_weightBelow cX5_weightBelow 4 (some .int)) ({ frames := 3, cells := 0, slots := 0, locals := 67 } : Room) M0 N [.ref a, .int p1] (qRet M0 N (.int (s_X5_weightBelow v p1))) 0 0 := by
  obtain ⟨R, hR⟩ : ∃ R, s_X5_weightBelow v p1 = R := ⟨_, rfl⟩
  rw [hR]
  rw [s_X5_weightBelow] at hR
  refine q_head (by decide +kernel) ?_ (Nat.le_of_ble_eq_true rfl)
  intro p e s m below meth c ls hx hb hret hlk hml hown hnm hg hK hN hI hl
  have hl : lv_has ls 4 [(0, .ref a), (1, .int p1)] := hl
  refine lv_iconst (v := 0) hx hb dX5_weightBelow_0 (by decide) ?_
  refine lv_istore_n (lv' := [(2, .int 0), (0, .ref a), (1, .int p1)]) hx hb dX5_weightBelow_1 rfl hl (by decide) rfl (fun ls hl => ?_)
  refine lv_iconst (v := 0) hx hb dX5_weightBelow_2 (by decide) ?_
  refine lv_istore_n (lv' := [(3, .int 0), (2, .int 0), (0, .ref a), (1, .int p1)]) hx hb dX5_weightBelow_3 rfl hl (by decide) rfl (fun ls hl => ?_)
  have loop4 : ∀ (n4 : Nat) (x2h4 : Int32) (x3h4 : Int32), qmu v.1.2.2 x3h4 < n4 → s_X5_weightBelow_L4 v p1 n4 x2h4 x3h4 = R → ∀ (H : Heap) (locs : List Loc) (ls : Array Slot), qI D M0 s.heap M0 N H locs → lv_has ls 4 [(0, .ref a), (1, .int p1), (2, .int x2h4), (3, .int x3h4)] →
      W p l e ({ frames := 3, cells := 0, slots := 0, locals := 67 } : Room) s m [Value.ref a, Value.int p1].toArray below meth c H locs 0 0 (MQ below (qQ D M0 N (qRet M0 N (.int R))) [Value.ref a, Value.int p1].toArray s 0 0 (qA M0 N)) (F0 m 4 ls []) := by
    intro n4
    induction n4 with
    | zero => intro x2h4 x3h4 hm; exact absurd hm (Nat.not_lt_zero _)
    | succ n4 ih4 =>
      intro x2h4 x3h4 hm4 hR H locs ls  hI hl
      rw [s_X5_weightBelow_L4] at hR
      refine lv_iload_n hx hb dX5_weightBelow_4 rfl (lv_at hl 3 rfl) ?_
      refine lv_aload_n hx hb dX5_weightBelow_5 rfl (lv_at hl 0 rfl) ?_
      refine q_get hx hb hg in_X5 hown hK hI hL0.1 rfl 0 (by decide) (hg _ wf_X5_12) (fun _ h9 => h9) rfl dX5_weightBelow_6 ?_
      refine q_getN hx hb hg in_X1 hown hK hI hL0.2.1.1 rfl 2 (by decide) (hK.2 _ (List.mem_of_getElem? (i := 3) rfl)) (fun _ h9 => h9) rfl dX5_weightBelow_9 ?_
      refine lv_icmp_ge (tgt := 48) hx hb dX5_weightBelow_12 (by decide) (fun c1 => ?_) (fun c1 => ?_)
      · rw [if_pos c1] at hR
        refine lv_iload_n hx hb dX5_weightBelow_48 rfl (lv_at hl 2 rfl) ?_
        exact q_iret hx hb hret hlk hN hI (by subst hR; exact ⟨rfl, rfl, rfl⟩) dX5_weightBelow_49
      · rw [if_neg c1] at hR
        refine lv_iload_n hx hb dX5_weightBelow_15 rfl (lv_at hl 2 rfl) ?_
        refine lv_aload_n hx hb dX5_weightBelow_16 rfl (lv_at hl 0 rfl) ?_
        refine q_get hx hb hg in_X5 hown hK hI hL0.1 rfl 1 (by decide) (hg _ wf_X5_21) (fun _ h9 => h9) rfl dX5_weightBelow_17 ?_
        refine lv_iload_n hx hb dX5_weightBelow_20 rfl (lv_at hl 3 rfl) ?_
        refine lv_iload_n hx hb dX5_weightBelow_21 rfl (lv_at hl 1 rfl) ?_
        refine q_goR (q_runV (As := [.int x3h4, .int p1]) (rest := [.int x2h4]) hx hb hml hown hg (c_X8_isAtOrBelow l D cs hL0.2.2.1 x3h4 p1) v_X8_isAtOrBelow wl_X5_158 rfl rfl ⟨Nat.le_of_ble_eq_true rfl, Nat.le_of_ble_eq_true rfl⟩ hI hK 9 hL0.2.2.1.1 rfl hl.1 rfl rfl (Nat.le_of_ble_eq_true rfl) dX5_weightBelow_22 ⟨Nat.le_of_ble_eq_true rfl, Nat.le_of_ble_eq_true rfl⟩) hI (fun H locs hI => ?_)
        refine lv_if_eq (tgt := 39) hx hb dX5_weightBelow_25 (by decide) (fun c2 => ?_) (fun c2 => ?_)
        · rw [if_pos c2] at hR
          refine lv_iconst (v := 0) hx hb dX5_weightBelow_39 (by decide) ?_
          refine lv_iadd hx hb dX5_weightBelow_40 ?_
          refine lv_istore_n (lv' := [(2, .int (x2h4 + 0)), (0, .ref a), (1, .int p1), (3, .int x3h4)]) hx hb dX5_weightBelow_41 rfl hl (by decide) rfl (fun ls hl => ?_)
          refine lv_iinc (v := x3h4 + 1) (lv' := [(3, .int (x3h4 + 1)), (2, .int (x2h4 + 0)), (0, .ref a), (1, .int p1)]) hx hb dX5_weightBelow_42 hl (k := 3) rfl rfl (by decide) rfl (fun ls hl => ?_)
          refine lv_goto (tgt := 4) hx hb dX5_weightBelow_45 (by decide) ?_
          exact ih4 (x2h4 + 0) (x3h4 + 1) (q_mu c1 hm4) hR _ _ _  hI (lv_sub hl [2, 3, 1, 0] rfl)
        · rw [if_neg c2] at hR
          refine lv_aload_n hx hb dX5_weightBelow_28 rfl (lv_at hl 0 rfl) ?_
          refine q_get hx hb hg in_X5 hown hK hI hL0.1 rfl 0 (by decide) (hg _ wf_X5_12) (fun _ h9 => h9) rfl dX5_weightBelow_29 ?_
          refine lv_iload_n hx hb dX5_weightBelow_32 rfl (lv_at hl 3 rfl) ?_
          refine q_goR (q_runV (As := [.int x3h4]) (rest := [.int x2h4]) hx hb hml hown hg (c_X1_weightOf l D cs hL0.2.1 x3h4) v_X1_weightOf wl_X5_108 rfl rfl ⟨Nat.le_of_ble_eq_true rfl, Nat.le_of_ble_eq_true rfl⟩ hI hK 2 hL0.2.1.1 rfl hl.1 rfl rfl (Nat.le_of_ble_eq_true rfl) dX5_weightBelow_33 ⟨Nat.le_of_ble_eq_true rfl, Nat.le_of_ble_eq_true rfl⟩) hI (fun H locs hI => ?_)
          refine lv_goto (tgt := 40) hx hb dX5_weightBelow_36 (by decide) ?_
          refine lv_iadd hx hb dX5_weightBelow_40 ?_
          refine lv_istore_n (lv' := [(2, .int (x2h4 + (s_X1_weightOf v.1 x3h4))), (0, .ref a), (1, .int p1), (3, .int x3h4)]) hx hb dX5_weightBelow_41 rfl hl (by decide) rfl (fun ls hl => ?_)
          refine lv_iinc (v := x3h4 + 1) (lv' := [(3, .int (x3h4 + 1)), (2, .int (x2h4 + (s_X1_weightOf v.1 x3h4))), (0, .ref a), (1, .int p1)]) hx hb dX5_weightBelow_42 hl (k := 3) rfl rfl (by decide) rfl (fun ls hl => ?_)
          refine lv_goto (tgt := 4) hx hb dX5_weightBelow_45 (by decide) ?_
          exact ih4 (x2h4 + (s_X1_weightOf v.1 x3h4)) (x3h4 + 1) (q_mu c1 hm4) hR _ _ _  hI (lv_sub hl [2, 3, 1, 0] rfl)
  exact loop4 _ 0 0 (q_fuel _) hR _ _ _  hI (lv_sub hl [2, 3, 1, 0] rfl)
def s_X5_weightDownTo_L37 (v : qQV) (p1 : Int32) : Nat → Int32 → Int32 → Int32 → Int32 → Int32
  | 0, _, _, _, _ => default
  | n + 1, x2h37, x3h37, x4h37, x5h37 => (if 16 ≤ x5h37 then x2h37 else (if x4h37 < 0 then x2h37 else (if (s_X8_rightOf v.2.1 x4h37) = x3h37 then (s_X5_weightDownTo_L37 v p1 n (x2h37 + ((s_X1_weightOf v.1 x4h37) + (s_X5_weightBelow v (s_X8_leftOf v.2.1 x4h37)))) x4h37 (s_X8_upperOf v.2.1 x4h37) (x5h37 + 1)) else (s_X5_weightDownTo_L37 v p1 n x2h37 x4h37 (s_X8_upperOf v.2.1 x4h37) (x5h37 + 1)))))
def s_X5_weightDownTo (v : qQV) (p1 : Int32) : Int32 := (s_X5_weightDownTo_L37 v p1 ((16 : Int32).toInt.toNat + 1) ((s_X1_weightOf v.1 p1) + (s_X5_weightBelow v (s_X8_leftOf v.2.1 p1))) p1 (s_X8_upperOf v.2.1 p1) 0)
set_option maxHeartbeats 4000000 in
set_option maxRecDepth 20000 in
theorem c_X5_weightDownTo (l : Launch) (D : va_G) (cs : qC) {M0 : qM} {N a : Nat} {v : qQV} (hL0 : qLQ cs M0 a v) (p1 : Int32) :
    qMet l D cs yX5_weightDownTo (qws yX5_weightDownTo cX5_weightDownTo 6 (some .int)) ({ frames := 4, cells := 0, slots := 0, locals := 90 } : Room) M0 N [.ref a, .int p1] (qRet M0 N (.int (s_X5_weightDownTo v p1))) 0 0 := by
  obtain ⟨R, hR⟩ : ∃ R, s_X5_weightDownTo v p1 = R := ⟨_, rfl⟩
  rw [hR]
  rw [s_X5_weightDownTo] at hR
  refine q_head (by decide +kernel) ?_ (Nat.le_of_ble_eq_true rfl)
  intro p e s m below meth c ls hx hb hret hlk hml hown hnm hg hK hN hI hl
  have hl : lv_has ls 6 [(0, .ref a), (1, .int p1)] := hl
  refine lv_aload_n hx hb dX5_weightDownTo_0 rfl (lv_at hl 0 rfl) ?_
  refine q_get hx hb hg in_X5 hown hK hI hL0.1 rfl 0 (by decide) (hg _ wf_X5_12) (fun _ h9 => h9) rfl dX5_weightDownTo_1 ?_
  refine lv_iload_n hx hb dX5_weightDownTo_4 rfl (lv_at hl 1 rfl) ?_
  refine q_goR (q_runV (As := [.int p1]) (rest := []) hx hb hml hown hg (c_X1_weightOf l D cs hL0.2.1 p1) v_X1_weightOf wl_X5_108 rfl rfl ⟨Nat.le_of_ble_eq_true rfl, Nat.le_of_ble_eq_true rfl⟩ hI hK 2 hL0.2.1.1 rfl hl.1 rfl rfl (Nat.le_of_ble_eq_true rfl) dX5_weightDownTo_5 ⟨Nat.le_of_ble_eq_true rfl, Nat.le_of_ble_eq_true rfl⟩) hI (fun H locs hI => ?_)
  refine lv_aload_n hx hb dX5_weightDownTo_8 rfl (lv_at hl 0 rfl) ?_
  refine lv_aload_n hx hb dX5_weightDownTo_9 rfl (lv_at hl 0 rfl) ?_
  refine q_get hx hb hg in_X5 hown hK hI hL0.1 rfl 1 (by decide) (hg _ wf_X5_21) (fun _ h9 => h9) rfl dX5_weightDownTo_10 ?_
  refine lv_iload_n hx hb dX5_weightDownTo_13 rfl (lv_at hl 1 rfl) ?_
  refine q_goR (q_runV (As := [.int p1]) (rest := [.ref a, .int (s_X1_weightOf v.1 p1)]) hx hb hml hown hg (c_X8_leftOf l D cs hL0.2.2.1 p1) v_X8_leftOf wl_X5_149 rfl rfl ⟨Nat.le_of_ble_eq_true rfl, Nat.le_of_ble_eq_true rfl⟩ hI hK 9 hL0.2.2.1.1 rfl hl.1 rfl rfl (Nat.le_of_ble_eq_true rfl) dX5_weightDownTo_14 ⟨Nat.le_of_ble_eq_true rfl, Nat.le_of_ble_eq_true rfl⟩) hI (fun H locs hI => ?_)
  refine q_goR (q_runV (As := [.int (s_X8_leftOf v.2.1 p1)]) (rest := [.int (s_X1_weightOf v.1 p1)]) hx hb hml hown hg (c_X5_weightBelow l D cs hL0 (s_X8_leftOf v.2.1 p1)) v_X5_weightBelow wl_X5_152 rfl rfl ⟨Nat.le_of_ble_eq_true rfl, Nat.le_of_ble_eq_true rfl⟩ hI hK 6 hL0.1 rfl hl.1 rfl rfl (Nat.le_of_ble_eq_true rfl) dX5_weightDownTo_17 ⟨Nat.le_of_ble_eq_true rfl, Nat.le_of_ble_eq_true rfl⟩) hI (fun H locs hI => ?_)
  refine lv_iadd hx hb dX5_weightDownTo_20 ?_
  refine lv_istore_n (lv' := [(2, .int ((s_X1_weightOf v.1 p1) + (s_X5_weightBelow v (s_X8_leftOf v.2.1 p1)))), (0, .ref a), (1, .int p1)]) hx hb dX5_weightDownTo_21 rfl hl (by decide) rfl (fun ls hl => ?_)
  refine lv_iload_n hx hb dX5_weightDownTo_22 rfl (lv_at hl 2 rfl) ?_
  refine lv_istore_n (lv' := [(3, .int p1), (2, .int ((s_X1_weightOf v.1 p1) + (s_X5_weightBelow v (s_X8_leftOf v.2.1 p1)))), (0, .ref a), (1, .int p1)]) hx hb dX5_weightDownTo_23 rfl hl (by decide) rfl (fun ls hl => ?_)
  refine lv_aload_n hx hb dX5_weightDownTo_24 rfl (lv_at hl 2 rfl) ?_
  refine q_get hx hb hg in_X5 hown hK hI hL0.1 rfl 1 (by decide) (hg _ wf_X5_21) (fun _ h9 => h9) rfl dX5_weightDownTo_25 ?_
  refine lv_iload_n hx hb dX5_weightDownTo_28 rfl (lv_at hl 0 rfl) ?_
  refine q_goR (q_runV (As := [.int p1]) (rest := []) hx hb hml hown hg (c_X8_upperOf l D cs hL0.2.2.1 p1) v_X8_upperOf wl_X5_143 rfl rfl ⟨Nat.le_of_ble_eq_true rfl, Nat.le_of_ble_eq_true rfl⟩ hI hK 9 hL0.2.2.1.1 rfl hl.1 rfl rfl (Nat.le_of_ble_eq_true rfl) dX5_weightDownTo_29 ⟨Nat.le_of_ble_eq_true rfl, Nat.le_of_ble_eq_true rfl⟩) hI (fun H locs hI => ?_)
  refine lv_istore (lv' := [(4, .int (s_X8_upperOf v.2.1 p1)), (3, .int p1), (2, .int ((s_X1_weightOf v.1 p1) + (s_X5_weightBelow v (s_X8_leftOf v.2.1 p1)))), (0, .ref a), (1, .int p1)]) hx hb dX5_weightDownTo_32 hl (by decide) rfl (fun ls hl => ?_)
  refine lv_iconst (v := 0) hx hb dX5_weightDownTo_34 (by decide) ?_
  refine lv_istore (lv' := [(5, .int 0), (4, .int (s_X8_upperOf v.2.1 p1)), (3, .int p1), (2, .int ((s_X1_weightOf v.1 p1) + (s_X5_weightBelow v (s_X8_leftOf v.2.1 p1)))), (0, .ref a), (1, .int p1)]) hx hb dX5_weightDownTo_35 hl (by decide) rfl (fun ls hl => ?_)
  have loop37 : ∀ (n37 : Nat) (x2h37 : Int32) (x3h37 : Int32) (x4h37 : Int32) (x5h37 : Int32), qmu 16 x5h37 < n37 → s_X5_weightDownTo_L37 v p1 n37 x2h37 x3h37 x4h37 x5h37 = R → ∀ (H : Heap) (locs : List Loc) (ls : Array Slot), qI D M0 s.heap M0 N H locs → lv_has ls 6 [(0, .ref a), (1, .int p1), (2, .int x2h37), (3, .int x3h37), (4, .int x4h37), (5, .int x5h37)] →
      W p l e ({ frames := 4, cells := 0, slots := 0, locals := 90 } : Room) s m [Value.ref a, Value.int p1].toArray below meth c H locs 0 0 (MQ below (qQ D M0 N (qRet M0 N (.int R))) [Value.ref a, Value.int p1].toArray s 0 0 (qA M0 N)) (F0 m 37 ls []) := by
    intro n37
    induction n37 with
    | zero => intro x2h37 x3h37 x4h37 x5h37 hm; exact absurd hm (Nat.not_lt_zero _)
    | succ n37 ih37 =>
      intro x2h37 x3h37 x4h37 x5h37 hm37 hR H locs ls  hI hl
      rw [s_X5_weightDownTo_L37] at hR
      refine lv_iload hx hb dX5_weightDownTo_37 (lv_at hl 5 rfl) ?_
      refine lv_bipush (v := 16) hx hb dX5_weightDownTo_39 (by decide) ?_
      refine lv_icmp_ge (tgt := 107) hx hb dX5_weightDownTo_41 (by decide) (fun c1 => ?_) (fun c1 => ?_)
      · rw [if_pos c1] at hR
        refine lv_iload_n hx hb dX5_weightDownTo_107 rfl (lv_at hl 2 rfl) ?_
        exact q_iret hx hb hret hlk hN hI (by subst hR; exact ⟨rfl, rfl, rfl⟩) dX5_weightDownTo_108
      · rw [if_neg c1] at hR
        refine lv_iload hx hb dX5_weightDownTo_44 (lv_at hl 4 rfl) ?_
        refine lv_if_lt (tgt := 107) hx hb dX5_weightDownTo_46 (by decide) (fun c2 => ?_) (fun c2 => ?_)
        · rw [if_pos c2] at hR
          refine lv_iload_n hx hb dX5_weightDownTo_107 rfl (lv_at hl 2 rfl) ?_
          exact q_iret hx hb hret hlk hN hI (by subst hR; exact ⟨rfl, rfl, rfl⟩) dX5_weightDownTo_108
        · rw [if_neg c2] at hR
          refine lv_aload_n hx hb dX5_weightDownTo_49 rfl (lv_at hl 0 rfl) ?_
          refine q_get hx hb hg in_X5 hown hK hI hL0.1 rfl 1 (by decide) (hg _ wf_X5_21) (fun _ h9 => h9) rfl dX5_weightDownTo_50 ?_
          refine lv_iload hx hb dX5_weightDownTo_53 (lv_at hl 4 rfl) ?_
          refine q_goR (q_runV (As := [.int x4h37]) (rest := []) hx hb hml hown hg (c_X8_rightOf l D cs hL0.2.2.1 x4h37) v_X8_rightOf wl_X5_155 rfl rfl ⟨Nat.le_of_ble_eq_true rfl, Nat.le_of_ble_eq_true rfl⟩ hI hK 9 hL0.2.2.1.1 rfl hl.1 rfl rfl (Nat.le_of_ble_eq_true rfl) dX5_weightDownTo_55 ⟨Nat.le_of_ble_eq_true rfl, Nat.le_of_ble_eq_true rfl⟩) hI (fun H locs hI => ?_)
          refine lv_iload_n hx hb dX5_weightDownTo_58 rfl (lv_at hl 3 rfl) ?_
          refine lv_icmp_ne (tgt := 88) hx hb dX5_weightDownTo_59 (by decide) (fun c3 => ?_) (fun c3 => ?_)
          · rw [if_neg c3] at hR
            refine lv_iload hx hb dX5_weightDownTo_88 (lv_at hl 4 rfl) ?_
            refine lv_istore_n (lv' := [(3, .int x4h37), (0, .ref a), (1, .int p1), (2, .int x2h37), (4, .int x4h37), (5, .int x5h37)]) hx hb dX5_weightDownTo_90 rfl hl (by decide) rfl (fun ls hl => ?_)
            refine lv_aload_n hx hb dX5_weightDownTo_91 rfl (lv_at hl 1 rfl) ?_
            refine q_get hx hb hg in_X5 hown hK hI hL0.1 rfl 1 (by decide) (hg _ wf_X5_21) (fun _ h9 => h9) rfl dX5_weightDownTo_92 ?_
            refine lv_iload_n hx hb dX5_weightDownTo_95 rfl (lv_at hl 0 rfl) ?_
            refine q_goR (q_runV (As := [.int x4h37]) (rest := []) hx hb hml hown hg (c_X8_upperOf l D cs hL0.2.2.1 x4h37) v_X8_upperOf wl_X5_143 rfl rfl ⟨Nat.le_of_ble_eq_true rfl, Nat.le_of_ble_eq_true rfl⟩ hI hK 9 hL0.2.2.1.1 rfl hl.1 rfl rfl (Nat.le_of_ble_eq_true rfl) dX5_weightDownTo_96 ⟨Nat.le_of_ble_eq_true rfl, Nat.le_of_ble_eq_true rfl⟩) hI (fun H locs hI => ?_)
            refine lv_istore (lv' := [(4, .int (s_X8_upperOf v.2.1 x4h37)), (3, .int x4h37), (0, .ref a), (1, .int p1), (2, .int x2h37), (5, .int x5h37)]) hx hb dX5_weightDownTo_99 hl (by decide) rfl (fun ls hl => ?_)
            refine lv_iinc (v := x5h37 + 1) (lv' := [(5, .int (x5h37 + 1)), (4, .int (s_X8_upperOf v.2.1 x4h37)), (3, .int x4h37), (0, .ref a), (1, .int p1), (2, .int x2h37)]) hx hb dX5_weightDownTo_101 hl (k := 5) rfl rfl (by decide) rfl (fun ls hl => ?_)
            refine lv_goto (tgt := 37) hx hb dX5_weightDownTo_104 (by decide) ?_
            exact ih37 x2h37 x4h37 (s_X8_upperOf v.2.1 x4h37) (x5h37 + 1) (q_mu c1 hm37) hR _ _ _  hI (lv_sub hl [3, 4, 5, 2, 1, 0] rfl)
          · rw [if_pos c3] at hR
            refine lv_iload_n hx hb dX5_weightDownTo_62 rfl (lv_at hl 2 rfl) ?_
            refine lv_aload_n hx hb dX5_weightDownTo_63 rfl (lv_at hl 0 rfl) ?_
            refine q_get hx hb hg in_X5 hown hK hI hL0.1 rfl 0 (by decide) (hg _ wf_X5_12) (fun _ h9 => h9) rfl dX5_weightDownTo_64 ?_
            refine lv_iload hx hb dX5_weightDownTo_67 (lv_at hl 4 rfl) ?_
            refine q_goR (q_runV (As := [.int x4h37]) (rest := [.int x2h37]) hx hb hml hown hg (c_X1_weightOf l D cs hL0.2.1 x4h37) v_X1_weightOf wl_X5_108 rfl rfl ⟨Nat.le_of_ble_eq_true rfl, Nat.le_of_ble_eq_true rfl⟩ hI hK 2 hL0.2.1.1 rfl hl.1 rfl rfl (Nat.le_of_ble_eq_true rfl) dX5_weightDownTo_69 ⟨Nat.le_of_ble_eq_true rfl, Nat.le_of_ble_eq_true rfl⟩) hI (fun H locs hI => ?_)
            refine lv_aload_n hx hb dX5_weightDownTo_72 rfl (lv_at hl 0 rfl) ?_
            refine lv_aload_n hx hb dX5_weightDownTo_73 rfl (lv_at hl 0 rfl) ?_
            refine q_get hx hb hg in_X5 hown hK hI hL0.1 rfl 1 (by decide) (hg _ wf_X5_21) (fun _ h9 => h9) rfl dX5_weightDownTo_74 ?_
            refine lv_iload hx hb dX5_weightDownTo_77 (lv_at hl 4 rfl) ?_
            refine q_goR (q_runV (As := [.int x4h37]) (rest := [.ref a, .int (s_X1_weightOf v.1 x4h37), .int x2h37]) hx hb hml hown hg (c_X8_leftOf l D cs hL0.2.2.1 x4h37) v_X8_leftOf wl_X5_149 rfl rfl ⟨Nat.le_of_ble_eq_true rfl, Nat.le_of_ble_eq_true rfl⟩ hI hK 9 hL0.2.2.1.1 rfl hl.1 rfl rfl (Nat.le_of_ble_eq_true rfl) dX5_weightDownTo_79 ⟨Nat.le_of_ble_eq_true rfl, Nat.le_of_ble_eq_true rfl⟩) hI (fun H locs hI => ?_)
            refine q_goR (q_runV (As := [.int (s_X8_leftOf v.2.1 x4h37)]) (rest := [.int (s_X1_weightOf v.1 x4h37), .int x2h37]) hx hb hml hown hg (c_X5_weightBelow l D cs hL0 (s_X8_leftOf v.2.1 x4h37)) v_X5_weightBelow wl_X5_152 rfl rfl ⟨Nat.le_of_ble_eq_true rfl, Nat.le_of_ble_eq_true rfl⟩ hI hK 6 hL0.1 rfl hl.1 rfl rfl (Nat.le_of_ble_eq_true rfl) dX5_weightDownTo_82 ⟨Nat.le_of_ble_eq_true rfl, Nat.le_of_ble_eq_true rfl⟩) hI (fun H locs hI => ?_)
            refine lv_iadd hx hb dX5_weightDownTo_85 ?_
            refine lv_iadd hx hb dX5_weightDownTo_86 ?_
            refine lv_istore_n (lv' := [(2, .int (x2h37 + ((s_X1_weightOf v.1 x4h37) + (s_X5_weightBelow v (s_X8_leftOf v.2.1 x4h37))))), (0, .ref a), (1, .int p1), (3, .int x3h37), (4, .int x4h37), (5, .int x5h37)]) hx hb dX5_weightDownTo_87 rfl hl (by decide) rfl (fun ls hl => ?_)
            refine lv_iload hx hb dX5_weightDownTo_88 (lv_at hl 4 rfl) ?_
            refine lv_istore_n (lv' := [(3, .int x4h37), (2, .int (x2h37 + ((s_X1_weightOf v.1 x4h37) + (s_X5_weightBelow v (s_X8_leftOf v.2.1 x4h37))))), (0, .ref a), (1, .int p1), (4, .int x4h37), (5, .int x5h37)]) hx hb dX5_weightDownTo_90 rfl hl (by decide) rfl (fun ls hl => ?_)
            refine lv_aload_n hx hb dX5_weightDownTo_91 rfl (lv_at hl 2 rfl) ?_
            refine q_get hx hb hg in_X5 hown hK hI hL0.1 rfl 1 (by decide) (hg _ wf_X5_21) (fun _ h9 => h9) rfl dX5_weightDownTo_92 ?_
            refine lv_iload_n hx hb dX5_weightDownTo_95 rfl (lv_at hl 0 rfl) ?_
            refine q_goR (q_runV (As := [.int x4h37]) (rest := []) hx hb hml hown hg (c_X8_upperOf l D cs hL0.2.2.1 x4h37) v_X8_upperOf wl_X5_143 rfl rfl ⟨Nat.le_of_ble_eq_true rfl, Nat.le_of_ble_eq_true rfl⟩ hI hK 9 hL0.2.2.1.1 rfl hl.1 rfl rfl (Nat.le_of_ble_eq_true rfl) dX5_weightDownTo_96 ⟨Nat.le_of_ble_eq_true rfl, Nat.le_of_ble_eq_true rfl⟩) hI (fun H locs hI => ?_)
            refine lv_istore (lv' := [(4, .int (s_X8_upperOf v.2.1 x4h37)), (3, .int x4h37), (2, .int (x2h37 + ((s_X1_weightOf v.1 x4h37) + (s_X5_weightBelow v (s_X8_leftOf v.2.1 x4h37))))), (0, .ref a), (1, .int p1), (5, .int x5h37)]) hx hb dX5_weightDownTo_99 hl (by decide) rfl (fun ls hl => ?_)
            refine lv_iinc (v := x5h37 + 1) (lv' := [(5, .int (x5h37 + 1)), (4, .int (s_X8_upperOf v.2.1 x4h37)), (3, .int x4h37), (2, .int (x2h37 + ((s_X1_weightOf v.1 x4h37) + (s_X5_weightBelow v (s_X8_leftOf v.2.1 x4h37))))), (0, .ref a), (1, .int p1)]) hx hb dX5_weightDownTo_101 hl (k := 5) rfl rfl (by decide) rfl (fun ls hl => ?_)
            refine lv_goto (tgt := 37) hx hb dX5_weightDownTo_104 (by decide) ?_
            exact ih37 (x2h37 + ((s_X1_weightOf v.1 x4h37) + (s_X5_weightBelow v (s_X8_leftOf v.2.1 x4h37)))) x4h37 (s_X8_upperOf v.2.1 x4h37) (x5h37 + 1) (q_mu c1 hm37) hR _ _ _  hI (lv_sub hl [4, 5, 3, 2, 1, 0] rfl)
  exact loop37 _ ((s_X1_weightOf v.1 p1) + (s_X5_weightBelow v (s_X8_leftOf v.2.1 p1))) p1 (s_X8_upperOf v.2.1 p1) 0 (q_fuel _) hR _ _ _  hI (lv_sub hl [4, 5, 3, 2, 1, 0] rfl)
def s_X5_sumByRopes_L7 (v : qQV) (p1 : Int32) : Nat → Int32 → Int32 → Int32 → Int32
  | 0, _, _, _ => default
  | n + 1, x2h7, x3h7, x4h7 => (if 16 ≤ x4h7 then x2h7 else (if x3h7 < 0 then x2h7 else (s_X5_sumByRopes_L7 v p1 n (x2h7 + (s_X5_weightDownTo v x3h7)) (s_X1_holderOf v.1 (s_X8_topOf v.2.1 x3h7)) (x4h7 + 1))))
def s_X5_sumByRopes (v : qQV) (p1 : Int32) : Int32 := (s_X5_sumByRopes_L7 v p1 ((16 : Int32).toInt.toNat + 1) 0 p1 0)
set_option maxHeartbeats 4000000 in
set_option maxRecDepth 20000 in
theorem c_X5_sumByRopes (l : Launch) (D : va_G) (cs : qC) {M0 : qM} {N a : Nat} {v : qQV} (hL0 : qLQ cs M0 a v) (p1 : Int32) :
    qMet l D cs yX5_sumByRopes (qws yX5_sumByRopes cX5_sumByRopes 5 (some .int)) ({ frames := 5, cells := 0, slots := 0, locals := 115 } : Room) M0 N [.ref a, .int p1] (qRet M0 N (.int (s_X5_sumByRopes v p1))) 0 0 := by
  obtain ⟨R, hR⟩ : ∃ R, s_X5_sumByRopes v p1 = R := ⟨_, rfl⟩
  rw [hR]
  rw [s_X5_sumByRopes] at hR
  refine q_head (by decide +kernel) ?_ (Nat.le_of_ble_eq_true rfl)
  intro p e s m below meth c ls hx hb hret hlk hml hown hnm hg hK hN hI hl
  have hl : lv_has ls 5 [(0, .ref a), (1, .int p1)] := hl
  refine lv_iconst (v := 0) hx hb dX5_sumByRopes_0 (by decide) ?_
  refine lv_istore_n (lv' := [(2, .int 0), (0, .ref a), (1, .int p1)]) hx hb dX5_sumByRopes_1 rfl hl (by decide) rfl (fun ls hl => ?_)
  refine lv_iload_n hx hb dX5_sumByRopes_2 rfl (lv_at hl 2 rfl) ?_
  refine lv_istore_n (lv' := [(3, .int p1), (2, .int 0), (0, .ref a), (1, .int p1)]) hx hb dX5_sumByRopes_3 rfl hl (by decide) rfl (fun ls hl => ?_)
  refine lv_iconst (v := 0) hx hb dX5_sumByRopes_4 (by decide) ?_
  refine lv_istore (lv' := [(4, .int 0), (3, .int p1), (2, .int 0), (0, .ref a), (1, .int p1)]) hx hb dX5_sumByRopes_5 hl (by decide) rfl (fun ls hl => ?_)
  have loop7 : ∀ (n7 : Nat) (x2h7 : Int32) (x3h7 : Int32) (x4h7 : Int32), qmu 16 x4h7 < n7 → s_X5_sumByRopes_L7 v p1 n7 x2h7 x3h7 x4h7 = R → ∀ (H : Heap) (locs : List Loc) (ls : Array Slot), qI D M0 s.heap M0 N H locs → lv_has ls 5 [(0, .ref a), (1, .int p1), (2, .int x2h7), (3, .int x3h7), (4, .int x4h7)] →
      W p l e ({ frames := 5, cells := 0, slots := 0, locals := 115 } : Room) s m [Value.ref a, Value.int p1].toArray below meth c H locs 0 0 (MQ below (qQ D M0 N (qRet M0 N (.int R))) [Value.ref a, Value.int p1].toArray s 0 0 (qA M0 N)) (F0 m 7 ls []) := by
    intro n7
    induction n7 with
    | zero => intro x2h7 x3h7 x4h7 hm; exact absurd hm (Nat.not_lt_zero _)
    | succ n7 ih7 =>
      intro x2h7 x3h7 x4h7 hm7 hR H locs ls  hI hl
      rw [s_X5_sumByRopes_L7] at hR
      refine lv_iload hx hb dX5_sumByRopes_7 (lv_at hl 4 rfl) ?_
      refine lv_bipush (v := 16) hx hb dX5_sumByRopes_9 (by decide) ?_
      refine lv_icmp_ge (tgt := 48) hx hb dX5_sumByRopes_11 (by decide) (fun c1 => ?_) (fun c1 => ?_)
      · rw [if_pos c1] at hR
        refine lv_iload_n hx hb dX5_sumByRopes_48 rfl (lv_at hl 2 rfl) ?_
        exact q_iret hx hb hret hlk hN hI (by subst hR; exact ⟨rfl, rfl, rfl⟩) dX5_sumByRopes_49
      · rw [if_neg c1] at hR
        refine lv_iload_n hx hb dX5_sumByRopes_14 rfl (lv_at hl 3 rfl) ?_
        refine lv_if_lt (tgt := 48) hx hb dX5_sumByRopes_15 (by decide) (fun c2 => ?_) (fun c2 => ?_)
        · rw [if_pos c2] at hR
          refine lv_iload_n hx hb dX5_sumByRopes_48 rfl (lv_at hl 2 rfl) ?_
          exact q_iret hx hb hret hlk hN hI (by subst hR; exact ⟨rfl, rfl, rfl⟩) dX5_sumByRopes_49
        · rw [if_neg c2] at hR
          refine lv_iload_n hx hb dX5_sumByRopes_18 rfl (lv_at hl 2 rfl) ?_
          refine lv_aload_n hx hb dX5_sumByRopes_19 rfl (lv_at hl 0 rfl) ?_
          refine lv_iload_n hx hb dX5_sumByRopes_20 rfl (lv_at hl 3 rfl) ?_
          refine q_goR (q_runV (As := [.int x3h7]) (rest := [.int x2h7]) hx hb hml hown hg (c_X5_weightDownTo l D cs hL0 x3h7) v_X5_weightDownTo wl_X5_146 rfl rfl ⟨Nat.le_of_ble_eq_true rfl, Nat.le_of_ble_eq_true rfl⟩ hI hK 6 hL0.1 rfl hl.1 rfl rfl (Nat.le_of_ble_eq_true rfl) dX5_sumByRopes_21 ⟨Nat.le_of_ble_eq_true rfl, Nat.le_of_ble_eq_true rfl⟩) hI (fun H locs hI => ?_)
          refine lv_iadd hx hb dX5_sumByRopes_24 ?_
          refine lv_istore_n (lv' := [(2, .int (x2h7 + (s_X5_weightDownTo v x3h7))), (0, .ref a), (1, .int p1), (3, .int x3h7), (4, .int x4h7)]) hx hb dX5_sumByRopes_25 rfl hl (by decide) rfl (fun ls hl => ?_)
          refine lv_aload_n hx hb dX5_sumByRopes_26 rfl (lv_at hl 1 rfl) ?_
          refine q_get hx hb hg in_X5 hown hK hI hL0.1 rfl 0 (by decide) (hg _ wf_X5_12) (fun _ h9 => h9) rfl dX5_sumByRopes_27 ?_
          refine lv_aload_n hx hb dX5_sumByRopes_30 rfl (lv_at hl 1 rfl) ?_
          refine q_get hx hb hg in_X5 hown hK hI hL0.1 rfl 1 (by decide) (hg _ wf_X5_21) (fun _ h9 => h9) rfl dX5_sumByRopes_31 ?_
          refine lv_iload_n hx hb dX5_sumByRopes_34 rfl (lv_at hl 3 rfl) ?_
          refine q_goR (q_runV (As := [.int x3h7]) (rest := [.ref (a + 1)]) hx hb hml hown hg (c_X8_topOf l D cs hL0.2.2.1 x3h7) v_X8_topOf wl_X5_137 rfl rfl ⟨Nat.le_of_ble_eq_true rfl, Nat.le_of_ble_eq_true rfl⟩ hI hK 9 hL0.2.2.1.1 rfl hl.1 rfl rfl (Nat.le_of_ble_eq_true rfl) dX5_sumByRopes_35 ⟨Nat.le_of_ble_eq_true rfl, Nat.le_of_ble_eq_true rfl⟩) hI (fun H locs hI => ?_)
          refine q_goR (q_runV (As := [.int (s_X8_topOf v.2.1 x3h7)]) (rest := []) hx hb hml hown hg (c_X1_holderOf l D cs hL0.2.1 (s_X8_topOf v.2.1 x3h7)) v_X1_holderOf wl_X5_78 rfl rfl ⟨Nat.le_of_ble_eq_true rfl, Nat.le_of_ble_eq_true rfl⟩ hI hK 2 hL0.2.1.1 rfl hl.1 rfl rfl (Nat.le_of_ble_eq_true rfl) dX5_sumByRopes_38 ⟨Nat.le_of_ble_eq_true rfl, Nat.le_of_ble_eq_true rfl⟩) hI (fun H locs hI => ?_)
          refine lv_istore_n (lv' := [(3, .int (s_X1_holderOf v.1 (s_X8_topOf v.2.1 x3h7))), (2, .int (x2h7 + (s_X5_weightDownTo v x3h7))), (0, .ref a), (1, .int p1), (4, .int x4h7)]) hx hb dX5_sumByRopes_41 rfl hl (by decide) rfl (fun ls hl => ?_)
          refine lv_iinc (v := x4h7 + 1) (lv' := [(4, .int (x4h7 + 1)), (3, .int (s_X1_holderOf v.1 (s_X8_topOf v.2.1 x3h7))), (2, .int (x2h7 + (s_X5_weightDownTo v x3h7))), (0, .ref a), (1, .int p1)]) hx hb dX5_sumByRopes_42 hl (k := 4) rfl rfl (by decide) rfl (fun ls hl => ?_)
          refine lv_goto (tgt := 7) hx hb dX5_sumByRopes_45 (by decide) ?_
          exact ih7 (x2h7 + (s_X5_weightDownTo v x3h7)) (s_X1_holderOf v.1 (s_X8_topOf v.2.1 x3h7)) (x4h7 + 1) (q_mu c1 hm7) hR _ _ _  hI (lv_sub hl [3, 4, 2, 1, 0] rfl)
  exact loop7 _ 0 p1 0 (q_fuel _) hR _ _ _  hI (lv_sub hl [3, 4, 2, 1, 0] rfl)
def s_X5_rootByTops_L11 (v : qQV) (p1 : Int32) : Nat → Int32 → Int32 → Int32
  | 0, _, _ => default
  | n + 1, x2h11, x3h11 => (if 16 ≤ x3h11 then x2h11 else (if (s_X1_holderOf v.1 x2h11) < 0 then x2h11 else (s_X5_rootByTops_L11 v p1 n (s_X8_topOf v.2.1 (s_X1_holderOf v.1 x2h11)) (x3h11 + 1))))
def s_X5_rootByTops (v : qQV) (p1 : Int32) : Int32 := (s_X5_rootByTops_L11 v p1 ((16 : Int32).toInt.toNat + 1) (s_X8_topOf v.2.1 p1) 0)
set_option maxHeartbeats 4000000 in
set_option maxRecDepth 20000 in
theorem c_X5_rootByTops (l : Launch) (D : va_G) (cs : qC) {M0 : qM} {N a : Nat} {v : qQV} (hL0 : qLQ cs M0 a v) (p1 : Int32) :
    qMet l D cs yX5_rootByTops (qws yX5_rootByTops cX5_rootByTops 4 (some .int)) ({ frames := 4, cells := 0, slots := 0, locals := 86 } : Room) M0 N [.ref a, .int p1] (qRet M0 N (.int (s_X5_rootByTops v p1))) 0 0 := by
  obtain ⟨R, hR⟩ : ∃ R, s_X5_rootByTops v p1 = R := ⟨_, rfl⟩
  rw [hR]
  rw [s_X5_rootByTops] at hR
  refine q_head (by decide +kernel) ?_ (Nat.le_of_ble_eq_true rfl)
  intro p e s m below meth c ls hx hb hret hlk hml hown hnm hg hK hN hI hl
  have hl : lv_has ls 4 [(0, .ref a), (1, .int p1)] := hl
  refine lv_aload_n hx hb dX5_rootByTops_0 rfl (lv_at hl 0 rfl) ?_
  refine q_get hx hb hg in_X5 hown hK hI hL0.1 rfl 1 (by decide) (hg _ wf_X5_21) (fun _ h9 => h9) rfl dX5_rootByTops_1 ?_
  refine lv_iload_n hx hb dX5_rootByTops_4 rfl (lv_at hl 1 rfl) ?_
  refine q_goR (q_runV (As := [.int p1]) (rest := []) hx hb hml hown hg (c_X8_topOf l D cs hL0.2.2.1 p1) v_X8_topOf wl_X5_137 rfl rfl ⟨Nat.le_of_ble_eq_true rfl, Nat.le_of_ble_eq_true rfl⟩ hI hK 9 hL0.2.2.1.1 rfl hl.1 rfl rfl (Nat.le_of_ble_eq_true rfl) dX5_rootByTops_5 ⟨Nat.le_of_ble_eq_true rfl, Nat.le_of_ble_eq_true rfl⟩) hI (fun H locs hI => ?_)
  refine lv_istore_n (lv' := [(2, .int (s_X8_topOf v.2.1 p1)), (0, .ref a), (1, .int p1)]) hx hb dX5_rootByTops_8 rfl hl (by decide) rfl (fun ls hl => ?_)
  refine lv_iconst (v := 0) hx hb dX5_rootByTops_9 (by decide) ?_
  refine lv_istore_n (lv' := [(3, .int 0), (2, .int (s_X8_topOf v.2.1 p1)), (0, .ref a), (1, .int p1)]) hx hb dX5_rootByTops_10 rfl hl (by decide) rfl (fun ls hl => ?_)
  have loop11 : ∀ (n11 : Nat) (x2h11 : Int32) (x3h11 : Int32), qmu 16 x3h11 < n11 → s_X5_rootByTops_L11 v p1 n11 x2h11 x3h11 = R → ∀ (H : Heap) (locs : List Loc) (ls : Array Slot), qI D M0 s.heap M0 N H locs → lv_has ls 4 [(0, .ref a), (1, .int p1), (2, .int x2h11), (3, .int x3h11)] →
      W p l e ({ frames := 4, cells := 0, slots := 0, locals := 86 } : Room) s m [Value.ref a, Value.int p1].toArray below meth c H locs 0 0 (MQ below (qQ D M0 N (qRet M0 N (.int R))) [Value.ref a, Value.int p1].toArray s 0 0 (qA M0 N)) (F0 m 11 ls []) := by
    intro n11
    induction n11 with
    | zero => intro x2h11 x3h11 hm; exact absurd hm (Nat.not_lt_zero _)
    | succ n11 ih11 =>
      intro x2h11 x3h11 hm11 hR H locs ls  hI hl
      rw [s_X5_rootByTops_L11] at hR
      refine lv_iload_n hx hb dX5_rootByTops_11 rfl (lv_at hl 3 rfl) ?_
      refine lv_bipush (v := 16) hx hb dX5_rootByTops_12 (by decide) ?_
      refine lv_icmp_ge (tgt := 50) hx hb dX5_rootByTops_14 (by decide) (fun c1 => ?_) (fun c1 => ?_)
      · rw [if_pos c1] at hR
        refine lv_iload_n hx hb dX5_rootByTops_50 rfl (lv_at hl 2 rfl) ?_
        exact q_iret hx hb hret hlk hN hI (by subst hR; exact ⟨rfl, rfl, rfl⟩) dX5_rootByTops_51
      · rw [if_neg c1] at hR
        refine lv_aload_n hx hb dX5_rootByTops_17 rfl (lv_at hl 0 rfl) ?_
        refine q_get hx hb hg in_X5 hown hK hI hL0.1 rfl 0 (by decide) (hg _ wf_X5_12) (fun _ h9 => h9) rfl dX5_rootByTops_18 ?_
        refine lv_iload_n hx hb dX5_rootByTops_21 rfl (lv_at hl 2 rfl) ?_
        refine q_goR (q_runV (As := [.int x2h11]) (rest := []) hx hb hml hown hg (c_X1_holderOf l D cs hL0.2.1 x2h11) v_X1_holderOf wl_X5_78 rfl rfl ⟨Nat.le_of_ble_eq_true rfl, Nat.le_of_ble_eq_true rfl⟩ hI hK 2 hL0.2.1.1 rfl hl.1 rfl rfl (Nat.le_of_ble_eq_true rfl) dX5_rootByTops_22 ⟨Nat.le_of_ble_eq_true rfl, Nat.le_of_ble_eq_true rfl⟩) hI (fun H locs hI => ?_)
        refine lv_if_lt (tgt := 50) hx hb dX5_rootByTops_25 (by decide) (fun c2 => ?_) (fun c2 => ?_)
        · rw [if_pos c2] at hR
          refine lv_iload_n hx hb dX5_rootByTops_50 rfl (lv_at hl 2 rfl) ?_
          exact q_iret hx hb hret hlk hN hI (by subst hR; exact ⟨rfl, rfl, rfl⟩) dX5_rootByTops_51
        · rw [if_neg c2] at hR
          refine lv_aload_n hx hb dX5_rootByTops_28 rfl (lv_at hl 0 rfl) ?_
          refine q_get hx hb hg in_X5 hown hK hI hL0.1 rfl 1 (by decide) (hg _ wf_X5_21) (fun _ h9 => h9) rfl dX5_rootByTops_29 ?_
          refine lv_aload_n hx hb dX5_rootByTops_32 rfl (lv_at hl 0 rfl) ?_
          refine q_get hx hb hg in_X5 hown hK hI hL0.1 rfl 0 (by decide) (hg _ wf_X5_12) (fun _ h9 => h9) rfl dX5_rootByTops_33 ?_
          refine lv_iload_n hx hb dX5_rootByTops_36 rfl (lv_at hl 2 rfl) ?_
          refine q_goR (q_runV (As := [.int x2h11]) (rest := [.ref (a + 4)]) hx hb hml hown hg (c_X1_holderOf l D cs hL0.2.1 x2h11) v_X1_holderOf wl_X5_78 rfl rfl ⟨Nat.le_of_ble_eq_true rfl, Nat.le_of_ble_eq_true rfl⟩ hI hK 2 hL0.2.1.1 rfl hl.1 rfl rfl (Nat.le_of_ble_eq_true rfl) dX5_rootByTops_37 ⟨Nat.le_of_ble_eq_true rfl, Nat.le_of_ble_eq_true rfl⟩) hI (fun H locs hI => ?_)
          refine q_goR (q_runV (As := [.int (s_X1_holderOf v.1 x2h11)]) (rest := []) hx hb hml hown hg (c_X8_topOf l D cs hL0.2.2.1 (s_X1_holderOf v.1 x2h11)) v_X8_topOf wl_X5_137 rfl rfl ⟨Nat.le_of_ble_eq_true rfl, Nat.le_of_ble_eq_true rfl⟩ hI hK 9 hL0.2.2.1.1 rfl hl.1 rfl rfl (Nat.le_of_ble_eq_true rfl) dX5_rootByTops_40 ⟨Nat.le_of_ble_eq_true rfl, Nat.le_of_ble_eq_true rfl⟩) hI (fun H locs hI => ?_)
          refine lv_istore_n (lv' := [(2, .int (s_X8_topOf v.2.1 (s_X1_holderOf v.1 x2h11))), (0, .ref a), (1, .int p1), (3, .int x3h11)]) hx hb dX5_rootByTops_43 rfl hl (by decide) rfl (fun ls hl => ?_)
          refine lv_iinc (v := x3h11 + 1) (lv' := [(3, .int (x3h11 + 1)), (2, .int (s_X8_topOf v.2.1 (s_X1_holderOf v.1 x2h11))), (0, .ref a), (1, .int p1)]) hx hb dX5_rootByTops_44 hl (k := 3) rfl rfl (by decide) rfl (fun ls hl => ?_)
          refine lv_goto (tgt := 11) hx hb dX5_rootByTops_47 (by decide) ?_
          exact ih11 (s_X8_topOf v.2.1 (s_X1_holderOf v.1 x2h11)) (x3h11 + 1) (q_mu c1 hm11) hR _ _ _  hI (lv_sub hl [2, 3, 1, 0] rfl)
  exact loop11 _ (s_X8_topOf v.2.1 p1) 0 (q_fuel _) hR _ _ _  hI (lv_sub hl [2, 3, 1, 0] rfl)
def s_X5_jointByRopes_L8 (v : qQV) (p1 : Int32) (p2 : Int32) : Nat → Int32 → Int32 → Int32 → Int32
  | 0, _, _, _ => default
  | n + 1, x3h8, x4h8, x5h8 => (if 16 ≤ x5h8 then (-4) else (if x3h8 < 0 then (-4) else (if x4h8 < 0 then (-4) else (if (s_X8_topOf v.2.1 x3h8) = (s_X8_topOf v.2.1 x4h8) then (if (s_X8_countAhead v.2.1 x4h8) < (s_X8_countAhead v.2.1 x3h8) then x4h8 else x3h8) else (if (s_X1_depthOf v.1 (s_X8_topOf v.2.1 x3h8)) < (s_X1_depthOf v.1 (s_X8_topOf v.2.1 x4h8)) then (s_X5_jointByRopes_L8 v p1 p2 n x3h8 (s_X1_holderOf v.1 (s_X8_topOf v.2.1 x4h8)) (x5h8 + 1)) else (s_X5_jointByRopes_L8 v p1 p2 n (s_X1_holderOf v.1 (s_X8_topOf v.2.1 x3h8)) x4h8 (x5h8 + 1)))))))
def s_X5_jointByRopes (v : qQV) (p1 : Int32) (p2 : Int32) : Int32 := (s_X5_jointByRopes_L8 v p1 p2 ((16 : Int32).toInt.toNat + 1) p1 p2 0)
set_option maxHeartbeats 4000000 in
set_option maxRecDepth 20000 in
theorem c_X5_jointByRopes (l : Launch) (D : va_G) (cs : qC) {M0 : qM} {N a : Nat} {v : qQV} (hL0 : qLQ cs M0 a v) (p1 : Int32) (p2 : Int32) :
    qMet l D cs yX5_jointByRopes (qws yX5_jointByRopes cX5_jointByRopes 8 (some .int)) ({ frames := 5, cells := 0, slots := 0, locals := 115 } : Room) M0 N [.ref a, .int p1, .int p2] (qRet M0 N (.int (s_X5_jointByRopes v p1 p2))) 0 0 := by
  obtain ⟨R, hR⟩ : ∃ R, s_X5_jointByRopes v p1 p2 = R := ⟨_, rfl⟩
  rw [hR]
  rw [s_X5_jointByRopes] at hR
  refine q_head (by decide +kernel) ?_ (Nat.le_of_ble_eq_true rfl)
  intro p e s m below meth c ls hx hb hret hlk hml hown hnm hg hK hN hI hl
  have hl : lv_has ls 8 [(0, .ref a), (1, .int p1), (2, .int p2)] := hl
  refine lv_iload_n hx hb dX5_jointByRopes_0 rfl (lv_at hl 1 rfl) ?_
  refine lv_istore_n (lv' := [(3, .int p1), (0, .ref a), (1, .int p1), (2, .int p2)]) hx hb dX5_jointByRopes_1 rfl hl (by decide) rfl (fun ls hl => ?_)
  refine lv_iload_n hx hb dX5_jointByRopes_2 rfl (lv_at hl 3 rfl) ?_
  refine lv_istore (lv' := [(4, .int p2), (3, .int p1), (0, .ref a), (1, .int p1), (2, .int p2)]) hx hb dX5_jointByRopes_3 hl (by decide) rfl (fun ls hl => ?_)
  refine lv_iconst (v := 0) hx hb dX5_jointByRopes_5 (by decide) ?_
  refine lv_istore (lv' := [(5, .int 0), (4, .int p2), (3, .int p1), (0, .ref a), (1, .int p1), (2, .int p2)]) hx hb dX5_jointByRopes_6 hl (by decide) rfl (fun ls hl => ?_)
  have loop8 : ∀ (n8 : Nat) (x3h8 : Int32) (x4h8 : Int32) (x5h8 : Int32), qmu 16 x5h8 < n8 → s_X5_jointByRopes_L8 v p1 p2 n8 x3h8 x4h8 x5h8 = R → ∀ (H : Heap) (locs : List Loc) (ls : Array Slot), qI D M0 s.heap M0 N H locs → lv_has ls 8 [(0, .ref a), (1, .int p1), (2, .int p2), (3, .int x3h8), (4, .int x4h8), (5, .int x5h8)] →
      W p l e ({ frames := 5, cells := 0, slots := 0, locals := 115 } : Room) s m [Value.ref a, Value.int p1, Value.int p2].toArray below meth c H locs 0 0 (MQ below (qQ D M0 N (qRet M0 N (.int R))) [Value.ref a, Value.int p1, Value.int p2].toArray s 0 0 (qA M0 N)) (F0 m 8 ls []) := by
    intro n8
    induction n8 with
    | zero => intro x3h8 x4h8 x5h8 hm; exact absurd hm (Nat.not_lt_zero _)
    | succ n8 ih8 =>
      intro x3h8 x4h8 x5h8 hm8 hR H locs ls  hI hl
      rw [s_X5_jointByRopes_L8] at hR
      refine lv_iload hx hb dX5_jointByRopes_8 (lv_at hl 5 rfl) ?_
      refine lv_bipush (v := 16) hx hb dX5_jointByRopes_10 (by decide) ?_
      refine lv_icmp_ge (tgt := 130) hx hb dX5_jointByRopes_12 (by decide) (fun c1 => ?_) (fun c1 => ?_)
      · rw [if_pos c1] at hR
        refine lv_bipush (v := (-4)) hx hb dX5_jointByRopes_130 (by decide) ?_
        exact q_iret hx hb hret hlk hN hI (by subst hR; exact ⟨rfl, rfl, rfl⟩) dX5_jointByRopes_132
      · rw [if_neg c1] at hR
        refine lv_iload_n hx hb dX5_jointByRopes_15 rfl (lv_at hl 3 rfl) ?_
        refine lv_if_lt (tgt := 130) hx hb dX5_jointByRopes_16 (by decide) (fun c2 => ?_) (fun c2 => ?_)
        · rw [if_pos c2] at hR
          refine lv_bipush (v := (-4)) hx hb dX5_jointByRopes_130 (by decide) ?_
          exact q_iret hx hb hret hlk hN hI (by subst hR; exact ⟨rfl, rfl, rfl⟩) dX5_jointByRopes_132
        · rw [if_neg c2] at hR
          refine lv_iload hx hb dX5_jointByRopes_19 (lv_at hl 4 rfl) ?_
          refine lv_if_lt (tgt := 130) hx hb dX5_jointByRopes_21 (by decide) (fun c3 => ?_) (fun c3 => ?_)
          · rw [if_pos c3] at hR
            refine lv_bipush (v := (-4)) hx hb dX5_jointByRopes_130 (by decide) ?_
            exact q_iret hx hb hret hlk hN hI (by subst hR; exact ⟨rfl, rfl, rfl⟩) dX5_jointByRopes_132
          · rw [if_neg c3] at hR
            refine lv_aload_n hx hb dX5_jointByRopes_24 rfl (lv_at hl 0 rfl) ?_
            refine q_get hx hb hg in_X5 hown hK hI hL0.1 rfl 1 (by decide) (hg _ wf_X5_21) (fun _ h9 => h9) rfl dX5_jointByRopes_25 ?_
            refine lv_iload_n hx hb dX5_jointByRopes_28 rfl (lv_at hl 3 rfl) ?_
            refine q_goR (q_runV (As := [.int x3h8]) (rest := []) hx hb hml hown hg (c_X8_topOf l D cs hL0.2.2.1 x3h8) v_X8_topOf wl_X5_137 rfl rfl ⟨Nat.le_of_ble_eq_true rfl, Nat.le_of_ble_eq_true rfl⟩ hI hK 9 hL0.2.2.1.1 rfl hl.1 rfl rfl (Nat.le_of_ble_eq_true rfl) dX5_jointByRopes_29 ⟨Nat.le_of_ble_eq_true rfl, Nat.le_of_ble_eq_true rfl⟩) hI (fun H locs hI => ?_)
            refine lv_istore (lv' := [(6, .int (s_X8_topOf v.2.1 x3h8)), (0, .ref a), (1, .int p1), (2, .int p2), (3, .int x3h8), (4, .int x4h8), (5, .int x5h8)]) hx hb dX5_jointByRopes_32 hl (by decide) rfl (fun ls hl => ?_)
            refine lv_aload_n hx hb dX5_jointByRopes_34 rfl (lv_at hl 1 rfl) ?_
            refine q_get hx hb hg in_X5 hown hK hI hL0.1 rfl 1 (by decide) (hg _ wf_X5_21) (fun _ h9 => h9) rfl dX5_jointByRopes_35 ?_
            refine lv_iload hx hb dX5_jointByRopes_38 (lv_at hl 5 rfl) ?_
            refine q_goR (q_runV (As := [.int x4h8]) (rest := []) hx hb hml hown hg (c_X8_topOf l D cs hL0.2.2.1 x4h8) v_X8_topOf wl_X5_137 rfl rfl ⟨Nat.le_of_ble_eq_true rfl, Nat.le_of_ble_eq_true rfl⟩ hI hK 9 hL0.2.2.1.1 rfl hl.1 rfl rfl (Nat.le_of_ble_eq_true rfl) dX5_jointByRopes_40 ⟨Nat.le_of_ble_eq_true rfl, Nat.le_of_ble_eq_true rfl⟩) hI (fun H locs hI => ?_)
            refine lv_istore (lv' := [(7, .int (s_X8_topOf v.2.1 x4h8)), (6, .int (s_X8_topOf v.2.1 x3h8)), (0, .ref a), (1, .int p1), (2, .int p2), (3, .int x3h8), (4, .int x4h8), (5, .int x5h8)]) hx hb dX5_jointByRopes_43 hl (by decide) rfl (fun ls hl => ?_)
            refine lv_iload hx hb dX5_jointByRopes_45 (lv_at hl 1 rfl) ?_
            refine lv_iload hx hb dX5_jointByRopes_47 (lv_at hl 0 rfl) ?_
            refine lv_icmp_ne (tgt := 79) hx hb dX5_jointByRopes_49 (by decide) (fun c4 => ?_) (fun c4 => ?_)
            · rw [if_neg c4] at hR
              refine lv_aload_n hx hb dX5_jointByRopes_79 rfl (lv_at hl 2 rfl) ?_
              refine q_get hx hb hg in_X5 hown hK hI hL0.1 rfl 0 (by decide) (hg _ wf_X5_12) (fun _ h9 => h9) rfl dX5_jointByRopes_80 ?_
              refine lv_iload hx hb dX5_jointByRopes_83 (lv_at hl 1 rfl) ?_
              refine q_goR (q_runV (As := [.int (s_X8_topOf v.2.1 x3h8)]) (rest := []) hx hb hml hown hg (c_X1_depthOf l D cs hL0.2.1 (s_X8_topOf v.2.1 x3h8)) v_X1_depthOf wl_X5_96 rfl rfl ⟨Nat.le_of_ble_eq_true rfl, Nat.le_of_ble_eq_true rfl⟩ hI hK 2 hL0.2.1.1 rfl hl.1 rfl rfl (Nat.le_of_ble_eq_true rfl) dX5_jointByRopes_85 ⟨Nat.le_of_ble_eq_true rfl, Nat.le_of_ble_eq_true rfl⟩) hI (fun H locs hI => ?_)
              refine lv_aload_n hx hb dX5_jointByRopes_88 rfl (lv_at hl 2 rfl) ?_
              refine q_get hx hb hg in_X5 hown hK hI hL0.1 rfl 0 (by decide) (hg _ wf_X5_12) (fun _ h9 => h9) rfl dX5_jointByRopes_89 ?_
              refine lv_iload hx hb dX5_jointByRopes_92 (lv_at hl 0 rfl) ?_
              refine q_goR (q_runV (As := [.int (s_X8_topOf v.2.1 x4h8)]) (rest := [.int (s_X1_depthOf v.1 (s_X8_topOf v.2.1 x3h8))]) hx hb hml hown hg (c_X1_depthOf l D cs hL0.2.1 (s_X8_topOf v.2.1 x4h8)) v_X1_depthOf wl_X5_96 rfl rfl ⟨Nat.le_of_ble_eq_true rfl, Nat.le_of_ble_eq_true rfl⟩ hI hK 2 hL0.2.1.1 rfl hl.1 rfl rfl (Nat.le_of_ble_eq_true rfl) dX5_jointByRopes_94 ⟨Nat.le_of_ble_eq_true rfl, Nat.le_of_ble_eq_true rfl⟩) hI (fun H locs hI => ?_)
              refine lv_icmp_lt (tgt := 113) hx hb dX5_jointByRopes_97 (by decide) (fun c5 => ?_) (fun c5 => ?_)
              · rw [if_pos c5] at hR
                refine lv_aload_n hx hb dX5_jointByRopes_113 rfl (lv_at hl 2 rfl) ?_
                refine q_get hx hb hg in_X5 hown hK hI hL0.1 rfl 0 (by decide) (hg _ wf_X5_12) (fun _ h9 => h9) rfl dX5_jointByRopes_114 ?_
                refine lv_iload hx hb dX5_jointByRopes_117 (lv_at hl 0 rfl) ?_
                refine q_goR (q_runV (As := [.int (s_X8_topOf v.2.1 x4h8)]) (rest := []) hx hb hml hown hg (c_X1_holderOf l D cs hL0.2.1 (s_X8_topOf v.2.1 x4h8)) v_X1_holderOf wl_X5_78 rfl rfl ⟨Nat.le_of_ble_eq_true rfl, Nat.le_of_ble_eq_true rfl⟩ hI hK 2 hL0.2.1.1 rfl hl.1 rfl rfl (Nat.le_of_ble_eq_true rfl) dX5_jointByRopes_119 ⟨Nat.le_of_ble_eq_true rfl, Nat.le_of_ble_eq_true rfl⟩) hI (fun H locs hI => ?_)
                refine lv_istore (lv' := [(4, .int (s_X1_holderOf v.1 (s_X8_topOf v.2.1 x4h8))), (7, .int (s_X8_topOf v.2.1 x4h8)), (6, .int (s_X8_topOf v.2.1 x3h8)), (0, .ref a), (1, .int p1), (2, .int p2), (3, .int x3h8), (5, .int x5h8)]) hx hb dX5_jointByRopes_122 hl (by decide) rfl (fun ls hl => ?_)
                refine lv_iinc (v := x5h8 + 1) (lv' := [(5, .int (x5h8 + 1)), (4, .int (s_X1_holderOf v.1 (s_X8_topOf v.2.1 x4h8))), (7, .int (s_X8_topOf v.2.1 x4h8)), (6, .int (s_X8_topOf v.2.1 x3h8)), (0, .ref a), (1, .int p1), (2, .int p2), (3, .int x3h8)]) hx hb dX5_jointByRopes_124 hl (k := 7) rfl rfl (by decide) rfl (fun ls hl => ?_)
                refine lv_goto (tgt := 8) hx hb dX5_jointByRopes_127 (by decide) ?_
                exact ih8 x3h8 (s_X1_holderOf v.1 (s_X8_topOf v.2.1 x4h8)) (x5h8 + 1) (q_mu c1 hm8) hR _ _ _  hI (lv_sub hl [4, 5, 6, 7, 1, 0] rfl)
              · rw [if_neg c5] at hR
                refine lv_aload_n hx hb dX5_jointByRopes_100 rfl (lv_at hl 2 rfl) ?_
                refine q_get hx hb hg in_X5 hown hK hI hL0.1 rfl 0 (by decide) (hg _ wf_X5_12) (fun _ h9 => h9) rfl dX5_jointByRopes_101 ?_
                refine lv_iload hx hb dX5_jointByRopes_104 (lv_at hl 1 rfl) ?_
                refine q_goR (q_runV (As := [.int (s_X8_topOf v.2.1 x3h8)]) (rest := []) hx hb hml hown hg (c_X1_holderOf l D cs hL0.2.1 (s_X8_topOf v.2.1 x3h8)) v_X1_holderOf wl_X5_78 rfl rfl ⟨Nat.le_of_ble_eq_true rfl, Nat.le_of_ble_eq_true rfl⟩ hI hK 2 hL0.2.1.1 rfl hl.1 rfl rfl (Nat.le_of_ble_eq_true rfl) dX5_jointByRopes_106 ⟨Nat.le_of_ble_eq_true rfl, Nat.le_of_ble_eq_true rfl⟩) hI (fun H locs hI => ?_)
                refine lv_istore_n (lv' := [(3, .int (s_X1_holderOf v.1 (s_X8_topOf v.2.1 x3h8))), (7, .int (s_X8_topOf v.2.1 x4h8)), (6, .int (s_X8_topOf v.2.1 x3h8)), (0, .ref a), (1, .int p1), (2, .int p2), (4, .int x4h8), (5, .int x5h8)]) hx hb dX5_jointByRopes_109 rfl hl (by decide) rfl (fun ls hl => ?_)
                refine lv_goto (tgt := 124) hx hb dX5_jointByRopes_110 (by decide) ?_
                refine lv_iinc (v := x5h8 + 1) (lv' := [(5, .int (x5h8 + 1)), (3, .int (s_X1_holderOf v.1 (s_X8_topOf v.2.1 x3h8))), (7, .int (s_X8_topOf v.2.1 x4h8)), (6, .int (s_X8_topOf v.2.1 x3h8)), (0, .ref a), (1, .int p1), (2, .int p2), (4, .int x4h8)]) hx hb dX5_jointByRopes_124 hl (k := 7) rfl rfl (by decide) rfl (fun ls hl => ?_)
                refine lv_goto (tgt := 8) hx hb dX5_jointByRopes_127 (by decide) ?_
                exact ih8 (s_X1_holderOf v.1 (s_X8_topOf v.2.1 x3h8)) x4h8 (x5h8 + 1) (q_mu c1 hm8) hR _ _ _  hI (lv_sub hl [4, 5, 6, 1, 7, 0] rfl)
            · rw [if_pos c4] at hR
              refine lv_aload_n hx hb dX5_jointByRopes_52 rfl (lv_at hl 2 rfl) ?_
              refine q_get hx hb hg in_X5 hown hK hI hL0.1 rfl 1 (by decide) (hg _ wf_X5_21) (fun _ h9 => h9) rfl dX5_jointByRopes_53 ?_
              refine lv_iload_n hx hb dX5_jointByRopes_56 rfl (lv_at hl 5 rfl) ?_
              refine q_goR (q_runV (As := [.int x3h8]) (rest := []) hx hb hml hown hg (c_X8_countAhead l D cs hL0.2.2.1 x3h8) v_X8_countAhead wl_X5_162 rfl rfl ⟨Nat.le_of_ble_eq_true rfl, Nat.le_of_ble_eq_true rfl⟩ hI hK 9 hL0.2.2.1.1 rfl hl.1 rfl rfl (Nat.le_of_ble_eq_true rfl) dX5_jointByRopes_57 ⟨Nat.le_of_ble_eq_true rfl, Nat.le_of_ble_eq_true rfl⟩) hI (fun H locs hI => ?_)
              refine lv_aload_n hx hb dX5_jointByRopes_60 rfl (lv_at hl 2 rfl) ?_
              refine q_get hx hb hg in_X5 hown hK hI hL0.1 rfl 1 (by decide) (hg _ wf_X5_21) (fun _ h9 => h9) rfl dX5_jointByRopes_61 ?_
              refine lv_iload hx hb dX5_jointByRopes_64 (lv_at hl 6 rfl) ?_
              refine q_goR (q_runV (As := [.int x4h8]) (rest := [.int (s_X8_countAhead v.2.1 x3h8)]) hx hb hml hown hg (c_X8_countAhead l D cs hL0.2.2.1 x4h8) v_X8_countAhead wl_X5_162 rfl rfl ⟨Nat.le_of_ble_eq_true rfl, Nat.le_of_ble_eq_true rfl⟩ hI hK 9 hL0.2.2.1.1 rfl hl.1 rfl rfl (Nat.le_of_ble_eq_true rfl) dX5_jointByRopes_66 ⟨Nat.le_of_ble_eq_true rfl, Nat.le_of_ble_eq_true rfl⟩) hI (fun H locs hI => ?_)
              refine lv_icmp_gt (tgt := 76) hx hb dX5_jointByRopes_69 (by decide) (fun c6 => ?_) (fun c6 => ?_)
              · rw [if_pos c6] at hR
                refine lv_iload hx hb dX5_jointByRopes_76 (lv_at hl 6 rfl) ?_
                exact q_iret hx hb hret hlk hN hI (by subst hR; exact ⟨rfl, rfl, rfl⟩) dX5_jointByRopes_78
              · rw [if_neg c6] at hR
                refine lv_iload_n hx hb dX5_jointByRopes_72 rfl (lv_at hl 5 rfl) ?_
                refine lv_goto (tgt := 78) hx hb dX5_jointByRopes_73 (by decide) ?_
                exact q_iret hx hb hret hlk hN hI (by subst hR; exact ⟨rfl, rfl, rfl⟩) dX5_jointByRopes_78
  exact loop8 _ p1 p2 0 (q_fuel _) hR _ _ _  hI (lv_sub hl [3, 4, 5, 2, 1, 0] rfl)
