def s_X2_forget (v : qHV)  : qHV := (v.1, v.2.1, 0)
set_option maxHeartbeats 4000000 in
set_option maxRecDepth 20000 in
theorem c_X2_forget (l : Launch) (D : va_G) (cs : qC) {M0 : qM} {N a : Nat} {v : qHV} (hL0 : qLH cs M0 a v) :
    qMet l D cs yX2_forget (qws yX2_forget cX2_forget 1 none) ({ frames := 0, cells := 0, slots := 0, locals := 0 } : Room) M0 N [.ref a] (qMod N none (fun M' => qLH cs M' a (s_X2_forget v) ∧ qFr (qIn a 119) M0 M')) 0 0 := by
  obtain ⟨R, hR⟩ : ∃ R, s_X2_forget v = R := ⟨_, rfl⟩
  rw [hR]
  rw [s_X2_forget] at hR
  refine q_head (by decide +kernel) ?_ (Nat.le_of_ble_eq_true rfl)
  intro p e s m below meth c ls hx hb hret hlk hml hown hnm hg hK hN hI hl
  have hl : lv_has ls 1 [(0, .ref a)] := hl
  have hS : qFr (qIn a 119) M0 M0 := qFr.rf
  refine lv_aload_n hx hb dX2_forget_0 rfl (lv_at hl 0 rfl) ?_
  refine lv_iconst (v := 0) hx hb dX2_forget_1 (by decide) ?_
  have hn := qLH.i2 0 hL0
  refine q_put (v := .int 0) hx hb hg in_X2 tyX2_ok nmX2 hown hK hI hL0.1 rfl 2 (by decide) (hg _ wf_X2_18) (fun _ h9 => h9) rfl rfl rfl (Nat.le_of_ble_eq_true rfl) dX2_forget_2 (fun H locs hI => ?_)
  obtain ⟨M, hn, hF, hI⟩ : ∃ Mx : qM, qLH cs Mx a (v.1, v.2.1, 0) ∧ qFr (qIn a 1) M0 Mx ∧ qI D M0 s.heap Mx N H locs := ⟨_, hn, qFr.up (by decide), hI⟩
  have hL0 := hn
  have hS := hS.tr hF (fun q hq => by omega)
  exact q_vret (st := []) hx hb hret hlk hN hI (by subst hR; exact ⟨rfl, ⟨hL0, hS⟩, rfl⟩) dX2_forget_5
def s_X2_keepDraft (v : qHV)  : qHV := (if 9 ≤ (v.2.1 + 1) then (v.1, 0, (if 8 < (v.2.2 + 1) then 8 else v.2.2 + 1)) else (v.1, v.2.1 + 1, (if 8 < (v.2.2 + 1) then 8 else v.2.2 + 1)))
set_option maxHeartbeats 4000000 in
set_option maxRecDepth 20000 in
theorem c_X2_keepDraft (l : Launch) (D : va_G) (cs : qC) {M0 : qM} {N a : Nat} {v : qHV} (hL0 : qLH cs M0 a v) :
    qMet l D cs yX2_keepDraft (qws yX2_keepDraft cX2_keepDraft 1 none) ({ frames := 1, cells := 0, slots := 0, locals := 40 } : Room) M0 N [.ref a] (qMod N none (fun M' => qLH cs M' a (s_X2_keepDraft v) ∧ qFr (qIn a 119) M0 M')) 0 0 := by
  obtain ⟨R, hR⟩ : ∃ R, s_X2_keepDraft v = R := ⟨_, rfl⟩
  rw [hR]
  rw [s_X2_keepDraft] at hR
  refine q_head (by decide +kernel) ?_ (Nat.le_of_ble_eq_true rfl)
  intro p e s m below meth c ls hx hb hret hlk hml hown hnm hg hK hN hI hl
  have hl : lv_has ls 1 [(0, .ref a)] := hl
  have hS : qFr (qIn a 119) M0 M0 := qFr.rf
  refine lv_aload_n hx hb dX2_keepDraft_0 rfl (lv_at hl 0 rfl) ?_
  refine lv_aload_n hx hb dX2_keepDraft_1 rfl (lv_at hl 0 rfl) ?_
  refine q_get hx hb hg in_X2 hown hK hI hL0.1 rfl 1 (by decide) (hg _ wf_X2_30) (fun _ h9 => h9) rfl dX2_keepDraft_2 ?_
  refine lv_iconst (v := 1) hx hb dX2_keepDraft_5 (by decide) ?_
  refine lv_iadd hx hb dX2_keepDraft_6 ?_
  refine lv_bipush (v := 9) hx hb dX2_keepDraft_7 (by decide) ?_
  refine lv_icmp_ge (tgt := 21) hx hb dX2_keepDraft_9 (by decide) (fun c1 => ?_) (fun c1 => ?_)
  · rw [if_pos c1] at hR
    refine lv_iconst (v := 0) hx hb dX2_keepDraft_21 (by decide) ?_
    have hn := qLH.i1 0 hL0
    refine q_put (v := .int 0) hx hb hg in_X2 tyX2_ok nmX2 hown hK hI hL0.1 rfl 1 (by decide) (hg _ wf_X2_30) (fun _ h9 => h9) rfl rfl rfl (Nat.le_of_ble_eq_true rfl) dX2_keepDraft_22 (fun H locs hI => ?_)
    obtain ⟨M, hn, hF, hI⟩ : ∃ Mx : qM, qLH cs Mx a (v.1, 0, v.2.2) ∧ qFr (qIn a 1) M0 Mx ∧ qI D M0 s.heap Mx N H locs := ⟨_, hn, qFr.up (by decide), hI⟩
    have hL0 := hn
    have hS := hS.tr hF (fun q hq => by omega)
    refine lv_aload_n hx hb dX2_keepDraft_25 rfl (lv_at hl 0 rfl) ?_
    refine lv_aload_n hx hb dX2_keepDraft_26 rfl (lv_at hl 0 rfl) ?_
    refine q_get hx hb hg in_X2 hown hK hI hL0.1 rfl 2 (by decide) (hg _ wf_X2_18) (fun _ h9 => h9) rfl dX2_keepDraft_27 ?_
    refine lv_iconst (v := 1) hx hb dX2_keepDraft_30 (by decide) ?_
    refine lv_iadd hx hb dX2_keepDraft_31 ?_
    refine lv_bipush (v := 8) hx hb dX2_keepDraft_32 (by decide) ?_
    refine va_mmin hx hb (hml.trans hl.1.symm) hown (hg _ wl_X2_33) (hg _ wm_min.1) (hg _ wm_ini) (hg _ wm_min.2) (Nat.le_of_ble_eq_true rfl) (Nat.le_of_ble_eq_true rfl) (Nat.le_of_ble_eq_true rfl) (Nat.le_of_ble_eq_true rfl) dX2_keepDraft_34 ?_
    have hn := qLH.i2 (if 8 < (v.2.2 + 1) then 8 else v.2.2 + 1) hL0
    refine q_put (v := .int (if 8 < (v.2.2 + 1) then 8 else v.2.2 + 1)) hx hb hg in_X2 tyX2_ok nmX2 hown hK hI hL0.1 rfl 2 (by decide) (hg _ wf_X2_18) (fun _ h9 => h9) rfl rfl rfl (Nat.le_of_ble_eq_true rfl) dX2_keepDraft_37 (fun H locs hI => ?_)
    obtain ⟨M, hn, hF, hI⟩ : ∃ Mx : qM, qLH cs Mx a (v.1, 0, (if 8 < (v.2.2 + 1) then 8 else v.2.2 + 1)) ∧ qFr (qIn a 1) M Mx ∧ qI D M0 s.heap Mx N H locs := ⟨_, hn, qFr.up (by decide), hI⟩
    have hL0 := hn
    have hS := hS.tr hF (fun q hq => by omega)
    exact q_vret (st := []) hx hb hret hlk hN hI (by subst hR; exact ⟨rfl, ⟨hL0, hS⟩, rfl⟩) dX2_keepDraft_40
  · rw [if_neg c1] at hR
    refine lv_aload_n hx hb dX2_keepDraft_12 rfl (lv_at hl 0 rfl) ?_
    refine q_get hx hb hg in_X2 hown hK hI hL0.1 rfl 1 (by decide) (hg _ wf_X2_30) (fun _ h9 => h9) rfl dX2_keepDraft_13 ?_
    refine lv_iconst (v := 1) hx hb dX2_keepDraft_16 (by decide) ?_
    refine lv_iadd hx hb dX2_keepDraft_17 ?_
    refine lv_goto (tgt := 22) hx hb dX2_keepDraft_18 (by decide) ?_
    have hn := qLH.i1 (v.2.1 + 1) hL0
    refine q_put (v := .int (v.2.1 + 1)) hx hb hg in_X2 tyX2_ok nmX2 hown hK hI hL0.1 rfl 1 (by decide) (hg _ wf_X2_30) (fun _ h9 => h9) rfl rfl rfl (Nat.le_of_ble_eq_true rfl) dX2_keepDraft_22 (fun H locs hI => ?_)
    obtain ⟨M, hn, hF, hI⟩ : ∃ Mx : qM, qLH cs Mx a (v.1, v.2.1 + 1, v.2.2) ∧ qFr (qIn a 1) M0 Mx ∧ qI D M0 s.heap Mx N H locs := ⟨_, hn, qFr.up (by decide), hI⟩
    have hL0 := hn
    have hS := hS.tr hF (fun q hq => by omega)
    refine lv_aload_n hx hb dX2_keepDraft_25 rfl (lv_at hl 0 rfl) ?_
    refine lv_aload_n hx hb dX2_keepDraft_26 rfl (lv_at hl 0 rfl) ?_
    refine q_get hx hb hg in_X2 hown hK hI hL0.1 rfl 2 (by decide) (hg _ wf_X2_18) (fun _ h9 => h9) rfl dX2_keepDraft_27 ?_
    refine lv_iconst (v := 1) hx hb dX2_keepDraft_30 (by decide) ?_
    refine lv_iadd hx hb dX2_keepDraft_31 ?_
    refine lv_bipush (v := 8) hx hb dX2_keepDraft_32 (by decide) ?_
    refine va_mmin hx hb (hml.trans hl.1.symm) hown (hg _ wl_X2_33) (hg _ wm_min.1) (hg _ wm_ini) (hg _ wm_min.2) (Nat.le_of_ble_eq_true rfl) (Nat.le_of_ble_eq_true rfl) (Nat.le_of_ble_eq_true rfl) (Nat.le_of_ble_eq_true rfl) dX2_keepDraft_34 ?_
    have hn := qLH.i2 (if 8 < (v.2.2 + 1) then 8 else v.2.2 + 1) hL0
    refine q_put (v := .int (if 8 < (v.2.2 + 1) then 8 else v.2.2 + 1)) hx hb hg in_X2 tyX2_ok nmX2 hown hK hI hL0.1 rfl 2 (by decide) (hg _ wf_X2_18) (fun _ h9 => h9) rfl rfl rfl (Nat.le_of_ble_eq_true rfl) dX2_keepDraft_37 (fun H locs hI => ?_)
    obtain ⟨M, hn, hF, hI⟩ : ∃ Mx : qM, qLH cs Mx a (v.1, v.2.1 + 1, (if 8 < (v.2.2 + 1) then 8 else v.2.2 + 1)) ∧ qFr (qIn a 1) M Mx ∧ qI D M0 s.heap Mx N H locs := ⟨_, hn, qFr.up (by decide), hI⟩
    have hL0 := hn
    have hS := hS.tr hF (fun q hq => by omega)
    exact q_vret (st := []) hx hb hret hlk hN hI (by subst hR; exact ⟨rfl, ⟨hL0, hS⟩, rfl⟩) dX2_keepDraft_40
def s_X2_takeBack (v : qHV) (u : qQV)  : Bool × qHV × qQV := (if 0 < v.2.2 then (if v.2.1 ≤ 0 then (true, (v.1, 8, v.2.2 - 1), (s_X2_dropDraft (v.1, 8, v.2.2 - 1) u)) else (true, (v.1, v.2.1 - 1, v.2.2 - 1), (s_X2_dropDraft (v.1, v.2.1 - 1, v.2.2 - 1) u))) else (false, v, u))
set_option maxHeartbeats 4000000 in
set_option maxRecDepth 20000 in
theorem c_X2_takeBack (l : Launch) (D : va_G) (cs : qC) {M0 : qM} {N a b : Nat} {v : qHV} {u : qQV} (hL0 : qLH cs M0 a v) (hL1 : qLQ cs M0 b u) (hd0 : a + 119 ≤ b ∨ b + 13 ≤ a) :
    qMet l D cs yX2_takeBack (qws yX2_takeBack cX2_takeBack 2 (some .boolean)) ({ frames := 5, cells := 0, slots := 0, locals := 108 } : Room) M0 N [.ref a, .ref b] (qMod N (some (.int (qbi ((s_X2_takeBack v u).1)))) (fun M' => qLH cs M' a ((s_X2_takeBack v u).2.1) ∧ qLQ cs M' b ((s_X2_takeBack v u).2.2) ∧ qFr (fun q => qIn a 119 q ∨ qIn b 13 q) M0 M')) 0 0 := by
  obtain ⟨R, hR⟩ : ∃ R, s_X2_takeBack v u = R := ⟨_, rfl⟩
  rw [hR]
  rw [s_X2_takeBack] at hR
  refine q_head (by decide +kernel) ?_ (Nat.le_of_ble_eq_true rfl)
  intro p e s m below meth c ls hx hb hret hlk hml hown hnm hg hK hN hI hl
  have hl : lv_has ls 2 [(0, .ref a), (1, .ref b)] := hl
  have hS : qFr (fun q => qIn a 119 q ∨ qIn b 13 q) M0 M0 := qFr.rf
  refine lv_aload_n hx hb dX2_takeBack_0 rfl (lv_at hl 0 rfl) ?_
  refine q_get hx hb hg in_X2 hown hK hI hL0.1 rfl 2 (by decide) (hg _ wf_X2_18) (fun _ h9 => h9) rfl dX2_takeBack_1 ?_
  refine lv_if_gt (tgt := 9) hx hb dX2_takeBack_4 (by decide) (fun c1 => ?_) (fun c1 => ?_)
  · rw [if_pos c1] at hR
    refine lv_aload_n hx hb dX2_takeBack_9 rfl (lv_at hl 0 rfl) ?_
    refine lv_dup hx hb dX2_takeBack_10 rfl ?_
    refine q_get hx hb hg in_X2 hown hK hI hL0.1 rfl 2 (by decide) (hg _ wf_X2_18) (fun _ h9 => h9) rfl dX2_takeBack_11 ?_
    refine lv_iconst (v := 1) hx hb dX2_takeBack_14 (by decide) ?_
    refine lv_isub hx hb dX2_takeBack_15 ?_
    have hn := qLH.i2 (v.2.2 - 1) hL0
    refine q_put (v := .int (v.2.2 - 1)) hx hb hg in_X2 tyX2_ok nmX2 hown hK hI hL0.1 rfl 2 (by decide) (hg _ wf_X2_18) (fun _ h9 => h9) rfl rfl rfl (Nat.le_of_ble_eq_true rfl) dX2_takeBack_16 (fun H locs hI => ?_)
    obtain ⟨M, hn, hF, hI⟩ : ∃ Mx : qM, qLH cs Mx a (v.1, v.2.1, v.2.2 - 1) ∧ qFr (qIn a 1) M0 Mx ∧ qI D M0 s.heap Mx N H locs := ⟨_, hn, qFr.up (by decide), hI⟩
    have hL0 := hn
    have hL1 := hL1.fr hF (fun q h1 h2 hq => by omega)
    have hS := hS.tr hF (fun q hq => by omega)
    refine lv_aload_n hx hb dX2_takeBack_19 rfl (lv_at hl 0 rfl) ?_
    refine lv_aload_n hx hb dX2_takeBack_20 rfl (lv_at hl 0 rfl) ?_
    refine q_get hx hb hg in_X2 hown hK hI hL0.1 rfl 1 (by decide) (hg _ wf_X2_30) (fun _ h9 => h9) rfl dX2_takeBack_21 ?_
    refine lv_if_le (tgt := 36) hx hb dX2_takeBack_24 (by decide) (fun c2 => ?_) (fun c2 => ?_)
    · rw [if_pos c2] at hR
      refine lv_bipush (v := 8) hx hb dX2_takeBack_36 (by decide) ?_
      have hn := qLH.i1 8 hL0
      refine q_put (v := .int 8) hx hb hg in_X2 tyX2_ok nmX2 hown hK hI hL0.1 rfl 1 (by decide) (hg _ wf_X2_30) (fun _ h9 => h9) rfl rfl rfl (Nat.le_of_ble_eq_true rfl) dX2_takeBack_38 (fun H locs hI => ?_)
      obtain ⟨M, hn, hF, hI⟩ : ∃ Mx : qM, qLH cs Mx a (v.1, 8, v.2.2 - 1) ∧ qFr (qIn a 1) M Mx ∧ qI D M0 s.heap Mx N H locs := ⟨_, hn, qFr.up (by decide), hI⟩
      have hL0 := hn
      have hL1 := hL1.fr hF (fun q h1 h2 hq => by omega)
      have hS := hS.tr hF (fun q hq => by omega)
      refine lv_aload_n hx hb dX2_takeBack_41 rfl (lv_at hl 0 rfl) ?_
      refine lv_aload_n hx hb dX2_takeBack_42 rfl (lv_at hl 1 rfl) ?_
      refine q_goN (q_runV (As := [.ref b]) (rest := []) hx hb hml hown hg (c_X2_dropDraft l D cs hL0 hL1 (by omega)) v_X2_dropDraft wl_X2_39 rfl rfl ⟨Nat.le_of_ble_eq_true rfl, Nat.le_of_ble_eq_true rfl⟩ hI hK 3 hL0.1 rfl hl.1 rfl rfl (Nat.le_of_ble_eq_true rfl) dX2_takeBack_43 ⟨Nat.le_of_ble_eq_true rfl, Nat.le_of_ble_eq_true rfl⟩) hI (fun M H locs hp hI => ?_)
      obtain ⟨hn1, hF⟩ := hp
      generalize heg3 : s_X2_dropDraft (v.1, 8, v.2.2 - 1) u = g3 at hn1 hR
      have hn := hn1
      have hL1 := hn
      have hL0 := hL0.fr hF (fun q h1 h2 hq => by omega)
      have hS := hS.tr hF (fun q hq => by omega)
      refine lv_iconst (v := 1) hx hb dX2_takeBack_46 (by decide) ?_
      exact q_zret hx hb hret rfl hlk hN hI (by subst hR; exact ⟨rfl, ⟨hL0, hL1, hS⟩, rfl⟩) dX2_takeBack_47
    · rw [if_neg c2] at hR
      refine lv_aload_n hx hb dX2_takeBack_27 rfl (lv_at hl 0 rfl) ?_
      refine q_get hx hb hg in_X2 hown hK hI hL0.1 rfl 1 (by decide) (hg _ wf_X2_30) (fun _ h9 => h9) rfl dX2_takeBack_28 ?_
      refine lv_iconst (v := 1) hx hb dX2_takeBack_31 (by decide) ?_
      refine lv_isub hx hb dX2_takeBack_32 ?_
      refine lv_goto (tgt := 38) hx hb dX2_takeBack_33 (by decide) ?_
      have hn := qLH.i1 (v.2.1 - 1) hL0
      refine q_put (v := .int (v.2.1 - 1)) hx hb hg in_X2 tyX2_ok nmX2 hown hK hI hL0.1 rfl 1 (by decide) (hg _ wf_X2_30) (fun _ h9 => h9) rfl rfl rfl (Nat.le_of_ble_eq_true rfl) dX2_takeBack_38 (fun H locs hI => ?_)
      obtain ⟨M, hn, hF, hI⟩ : ∃ Mx : qM, qLH cs Mx a (v.1, v.2.1 - 1, v.2.2 - 1) ∧ qFr (qIn a 1) M Mx ∧ qI D M0 s.heap Mx N H locs := ⟨_, hn, qFr.up (by decide), hI⟩
      have hL0 := hn
      have hL1 := hL1.fr hF (fun q h1 h2 hq => by omega)
      have hS := hS.tr hF (fun q hq => by omega)
      refine lv_aload_n hx hb dX2_takeBack_41 rfl (lv_at hl 0 rfl) ?_
      refine lv_aload_n hx hb dX2_takeBack_42 rfl (lv_at hl 1 rfl) ?_
      refine q_goN (q_runV (As := [.ref b]) (rest := []) hx hb hml hown hg (c_X2_dropDraft l D cs hL0 hL1 (by omega)) v_X2_dropDraft wl_X2_39 rfl rfl ⟨Nat.le_of_ble_eq_true rfl, Nat.le_of_ble_eq_true rfl⟩ hI hK 3 hL0.1 rfl hl.1 rfl rfl (Nat.le_of_ble_eq_true rfl) dX2_takeBack_43 ⟨Nat.le_of_ble_eq_true rfl, Nat.le_of_ble_eq_true rfl⟩) hI (fun M H locs hp hI => ?_)
      obtain ⟨hn1, hF⟩ := hp
      generalize heg4 : s_X2_dropDraft (v.1, v.2.1 - 1, v.2.2 - 1) u = g4 at hn1 hR
      have hn := hn1
      have hL1 := hn
      have hL0 := hL0.fr hF (fun q h1 h2 hq => by omega)
      have hS := hS.tr hF (fun q hq => by omega)
      refine lv_iconst (v := 1) hx hb dX2_takeBack_46 (by decide) ?_
      exact q_zret hx hb hret rfl hlk hN hI (by subst hR; exact ⟨rfl, ⟨hL0, hL1, hS⟩, rfl⟩) dX2_takeBack_47
  · rw [if_neg c1] at hR
    refine lv_iconst (v := 0) hx hb dX2_takeBack_7 (by decide) ?_
    exact q_zret hx hb hret rfl hlk hN hI (by subst hR; exact ⟨rfl, ⟨hL0, hL1, hS⟩, rfl⟩) dX2_takeBack_8
def s_X3_add (v : qIV) (p1 : Int32) : Int32 × qIV := (if p1 < 32 then ((-2), v) else (if 126 < p1 then ((-2), v) else (if v.2.2.2.2.1 < 60 then (v.2.2.2.2.1 + 1, ((rowPut v.1 v.2.2.2.2.1 p1), v.2.1, v.2.2.1, v.2.2.2.1, v.2.2.2.2.1 + 1, v.2.2.2.2.2.1, v.2.2.2.2.2.2)) else ((-2), v))))
set_option maxHeartbeats 4000000 in
set_option maxRecDepth 20000 in
theorem c_X3_add (l : Launch) (D : va_G) (cs : qC) {M0 : qM} {N a : Nat} {v : qIV} (hL0 : qLI cs M0 a v) (p1 : Int32) :
    qMet l D cs yX3_add (qws yX3_add cX3_add 2 (some .int)) ({ frames := 1, cells := 0, slots := 0, locals := 22 } : Room) M0 N [.ref a, .int p1] (qMod N (some (.int ((s_X3_add v p1).1))) (fun M' => qLI cs M' a ((s_X3_add v p1).2) ∧ qFr (qIn a 5) M0 M')) 0 0 := by
  obtain ⟨R, hR⟩ : ∃ R, s_X3_add v p1 = R := ⟨_, rfl⟩
  rw [hR]
  rw [s_X3_add] at hR
  refine q_head (by decide +kernel) ?_ (Nat.le_of_ble_eq_true rfl)
  intro p e s m below meth c ls hx hb hret hlk hml hown hnm hg hK hN hI hl
  have hl : lv_has ls 2 [(0, .ref a), (1, .int p1)] := hl
  have hS : qFr (qIn a 5) M0 M0 := qFr.rf
  refine lv_iload_n hx hb dX3_add_0 rfl (lv_at hl 1 rfl) ?_
  refine lv_bipush (v := 32) hx hb dX3_add_1 (by decide) ?_
  refine lv_icmp_lt (tgt := 21) hx hb dX3_add_3 (by decide) (fun c1 => ?_) (fun c1 => ?_)
  · rw [if_pos c1] at hR
    refine lv_bipush (v := (-2)) hx hb dX3_add_21 (by decide) ?_
    exact q_iret hx hb hret hlk hN hI (by subst hR; exact ⟨rfl, ⟨hL0, hS⟩, rfl⟩) dX3_add_23
  · rw [if_neg c1] at hR
    refine lv_iload_n hx hb dX3_add_6 rfl (lv_at hl 1 rfl) ?_
    refine lv_bipush (v := 126) hx hb dX3_add_7 (by decide) ?_
    refine lv_icmp_gt (tgt := 21) hx hb dX3_add_9 (by decide) (fun c2 => ?_) (fun c2 => ?_)
    · rw [if_pos c2] at hR
      refine lv_bipush (v := (-2)) hx hb dX3_add_21 (by decide) ?_
      exact q_iret hx hb hret hlk hN hI (by subst hR; exact ⟨rfl, ⟨hL0, hS⟩, rfl⟩) dX3_add_23
    · rw [if_neg c2] at hR
      refine lv_aload_n hx hb dX3_add_12 rfl (lv_at hl 0 rfl) ?_
      refine q_get hx hb hg in_X3 hown hK hI hL0.1 rfl 4 (by decide) (hg _ wf_X3_27) (fun _ h9 => h9) rfl dX3_add_13 ?_
      refine lv_bipush (v := 60) hx hb dX3_add_16 (by decide) ?_
      refine lv_icmp_lt (tgt := 24) hx hb dX3_add_18 (by decide) (fun c3 => ?_) (fun c3 => ?_)
      · rw [if_pos c3] at hR
        refine lv_aload_n hx hb dX3_add_24 rfl (lv_at hl 0 rfl) ?_
        refine q_get hx hb hg in_X3 hown hK hI hL0.1 rfl 0 (by decide) (hg _ wf_X3_9) (fun _ h9 => h9) rfl dX3_add_25 ?_
        refine lv_aload_n hx hb dX3_add_28 rfl (lv_at hl 0 rfl) ?_
        refine q_get hx hb hg in_X3 hown hK hI hL0.1 rfl 4 (by decide) (hg _ wf_X3_27) (fun _ h9 => h9) rfl dX3_add_29 ?_
        refine lv_iload_n hx hb dX3_add_32 rfl (lv_at hl 1 rfl) ?_
        refine q_goN (q_runSN (As := [.ref (a + 1), .int v.2.2.2.2.1, .int p1]) (rest := []) hx hb hml hown hg (c_X10_put l D cs hL0.2.1 v.2.2.2.2.1 p1) v_X10_put (hK.2 _ (List.mem_of_getElem? (i := 28) rfl)) rfl rfl ⟨Nat.le_of_ble_eq_true rfl, Nat.le_of_ble_eq_true rfl⟩ hI hK hl.1 rfl rfl (Nat.le_of_ble_eq_true rfl) dX3_add_33 ⟨Nat.le_of_ble_eq_true rfl, Nat.le_of_ble_eq_true rfl⟩) hI (fun M H locs hp hI => ?_)
        obtain ⟨hn0, hF⟩ := hp
        generalize heg4 : rowPut v.1 v.2.2.2.2.1 p1 = g4 at hn0 hR
        have hn := hn0
        have hn : qLI cs M a (g4, v.2.1, v.2.2.1, v.2.2.2.1, v.2.2.2.2.1, v.2.2.2.2.2.1, v.2.2.2.2.2.2) := qLI.s0 (v := v) hL0 hn (qFr.rf.tr hF (fun q hq => by omega))
        have hL0 := hn
        have hS := hS.tr hF (fun q hq => by omega)
        refine lv_aload_n hx hb dX3_add_36 rfl (lv_at hl 0 rfl) ?_
        refine lv_dup hx hb dX3_add_37 rfl ?_
        refine q_get hx hb hg in_X3 hown hK hI hL0.1 rfl 4 (by decide) (hg _ wf_X3_27) (fun _ h9 => h9) rfl dX3_add_38 ?_
        refine lv_iconst (v := 1) hx hb dX3_add_41 (by decide) ?_
        refine lv_iadd hx hb dX3_add_42 ?_
        have hn := qLI.i4 (v.2.2.2.2.1 + 1) hL0
        refine q_put (v := .int (v.2.2.2.2.1 + 1)) hx hb hg in_X3 tyX3_ok nmX3 hown hK hI hL0.1 rfl 4 (by decide) (hg _ wf_X3_27) (fun _ h9 => h9) rfl rfl rfl (Nat.le_of_ble_eq_true rfl) dX3_add_43 (fun H locs hI => ?_)
        obtain ⟨M, hn, hF, hI⟩ : ∃ Mx : qM, qLI cs Mx a (g4, v.2.1, v.2.2.1, v.2.2.2.1, v.2.2.2.2.1 + 1, v.2.2.2.2.2.1, v.2.2.2.2.2.2) ∧ qFr (qIn a 1) M Mx ∧ qI D M0 s.heap Mx N H locs := ⟨_, hn, qFr.up (by decide), hI⟩
        have hL0 := hn
        have hS := hS.tr hF (fun q hq => by omega)
        refine lv_aload_n hx hb dX3_add_46 rfl (lv_at hl 0 rfl) ?_
        refine q_get hx hb hg in_X3 hown hK hI hL0.1 rfl 4 (by decide) (hg _ wf_X3_27) (fun _ h9 => h9) rfl dX3_add_47 ?_
        exact q_iret hx hb hret hlk hN hI (by subst hR; exact ⟨rfl, ⟨hL0, hS⟩, rfl⟩) dX3_add_50
      · rw [if_neg c3] at hR
        refine lv_bipush (v := (-2)) hx hb dX3_add_21 (by decide) ?_
        exact q_iret hx hb hret hlk hN hI (by subst hR; exact ⟨rfl, ⟨hL0, hS⟩, rfl⟩) dX3_add_23
def s_X3_makeEmpty (v : qIV)  : qIV := (v.1, v.2.1, v.2.2.1, v.2.2.2.1, 0, v.2.2.2.2.2.1, v.2.2.2.2.2.2)
set_option maxHeartbeats 4000000 in
set_option maxRecDepth 20000 in
theorem c_X3_makeEmpty (l : Launch) (D : va_G) (cs : qC) {M0 : qM} {N a : Nat} {v : qIV} (hL0 : qLI cs M0 a v) :
    qMet l D cs yX3_makeEmpty (qws yX3_makeEmpty cX3_makeEmpty 1 none) ({ frames := 0, cells := 0, slots := 0, locals := 0 } : Room) M0 N [.ref a] (qMod N none (fun M' => qLI cs M' a (s_X3_makeEmpty v) ∧ qFr (qIn a 5) M0 M')) 0 0 := by
  obtain ⟨R, hR⟩ : ∃ R, s_X3_makeEmpty v = R := ⟨_, rfl⟩
  rw [hR]
  rw [s_X3_makeEmpty] at hR
  refine q_head (by decide +kernel) ?_ (Nat.le_of_ble_eq_true rfl)
  intro p e s m below meth c ls hx hb hret hlk hml hown hnm hg hK hN hI hl
  have hl : lv_has ls 1 [(0, .ref a)] := hl
  have hS : qFr (qIn a 5) M0 M0 := qFr.rf
  refine lv_aload_n hx hb dX3_makeEmpty_0 rfl (lv_at hl 0 rfl) ?_
  refine lv_iconst (v := 0) hx hb dX3_makeEmpty_1 (by decide) ?_
  have hn := qLI.i4 0 hL0
  refine q_put (v := .int 0) hx hb hg in_X3 tyX3_ok nmX3 hown hK hI hL0.1 rfl 4 (by decide) (hg _ wf_X3_27) (fun _ h9 => h9) rfl rfl rfl (Nat.le_of_ble_eq_true rfl) dX3_makeEmpty_2 (fun H locs hI => ?_)
  obtain ⟨M, hn, hF, hI⟩ : ∃ Mx : qM, qLI cs Mx a (v.1, v.2.1, v.2.2.1, v.2.2.2.1, 0, v.2.2.2.2.2.1, v.2.2.2.2.2.2) ∧ qFr (qIn a 1) M0 Mx ∧ qI D M0 s.heap Mx N H locs := ⟨_, hn, qFr.up (by decide), hI⟩
  have hL0 := hn
  have hS := hS.tr hF (fun q hq => by omega)
  exact q_vret (st := []) hx hb hret hlk hN hI (by subst hR; exact ⟨rfl, ⟨hL0, hS⟩, rfl⟩) dX3_makeEmpty_5
def s_X3_codeAt (v : qIV) (p1 : Int32) : Int32 := (if v.2.2.2.2.1 ≤ p1 then (-1) else rowAt v.1 p1)
set_option maxHeartbeats 4000000 in
set_option maxRecDepth 20000 in
theorem c_X3_codeAt (l : Launch) (D : va_G) (cs : qC) {M0 : qM} {N a : Nat} {v : qIV} (hL0 : qLI cs M0 a v) (p1 : Int32) :
    qMet l D cs yX3_codeAt (qws yX3_codeAt cX3_codeAt 2 (some .int)) ({ frames := 1, cells := 0, slots := 0, locals := 21 } : Room) M0 N [.ref a, .int p1] (qRet M0 N (.int (s_X3_codeAt v p1))) 0 0 := by
  obtain ⟨R, hR⟩ : ∃ R, s_X3_codeAt v p1 = R := ⟨_, rfl⟩
  rw [hR]
  rw [s_X3_codeAt] at hR
  refine q_head (by decide +kernel) ?_ (Nat.le_of_ble_eq_true rfl)
  intro p e s m below meth c ls hx hb hret hlk hml hown hnm hg hK hN hI hl
  have hl : lv_has ls 2 [(0, .ref a), (1, .int p1)] := hl
  refine lv_iload_n hx hb dX3_codeAt_0 rfl (lv_at hl 1 rfl) ?_
  refine lv_aload_n hx hb dX3_codeAt_1 rfl (lv_at hl 0 rfl) ?_
  refine q_get hx hb hg in_X3 hown hK hI hL0.1 rfl 4 (by decide) (hg _ wf_X3_27) (fun _ h9 => h9) rfl dX3_codeAt_2 ?_
  refine lv_icmp_ge (tgt := 19) hx hb dX3_codeAt_5 (by decide) (fun c1 => ?_) (fun c1 => ?_)
  · rw [if_pos c1] at hR
    refine lv_iconst (v := (-1)) hx hb dX3_codeAt_19 (by decide) ?_
    exact q_iret hx hb hret hlk hN hI (by subst hR; exact ⟨rfl, rfl, rfl⟩) dX3_codeAt_20
  · rw [if_neg c1] at hR
    refine lv_aload_n hx hb dX3_codeAt_8 rfl (lv_at hl 0 rfl) ?_
    refine q_get hx hb hg in_X3 hown hK hI hL0.1 rfl 0 (by decide) (hg _ wf_X3_9) (fun _ h9 => h9) rfl dX3_codeAt_9 ?_
    refine lv_iload_n hx hb dX3_codeAt_12 rfl (lv_at hl 1 rfl) ?_
    refine q_goR (q_runSN (As := [.ref (a + 1), .int p1]) (rest := []) hx hb hml hown hg (c_X10_at l D cs hL0.2.1 p1) v_X10_at (hK.2 _ (List.mem_of_getElem? (i := 43) rfl)) rfl rfl ⟨Nat.le_of_ble_eq_true rfl, Nat.le_of_ble_eq_true rfl⟩ hI hK hl.1 rfl rfl (Nat.le_of_ble_eq_true rfl) dX3_codeAt_13 ⟨Nat.le_of_ble_eq_true rfl, Nat.le_of_ble_eq_true rfl⟩) hI (fun H locs hI => ?_)
    refine lv_goto (tgt := 20) hx hb dX3_codeAt_16 (by decide) ?_
    exact q_iret hx hb hret hlk hN hI (by subst hR; exact ⟨rfl, rfl, rfl⟩) dX3_codeAt_20
def s_X3_takeSign (v : qIV) (p1 : Int32) : Bool × qIV := (if (s_X3_codeAt v v.2.2.2.2.2.2) = p1 then (true, (v.1, v.2.1, v.2.2.1, v.2.2.2.1, v.2.2.2.2.1, v.2.2.2.2.2.1, v.2.2.2.2.2.2 + 1)) else (false, v))
set_option maxHeartbeats 4000000 in
set_option maxRecDepth 20000 in
theorem c_X3_takeSign (l : Launch) (D : va_G) (cs : qC) {M0 : qM} {N a : Nat} {v : qIV} (hL0 : qLI cs M0 a v) (p1 : Int32) :
    qMet l D cs yX3_takeSign (qws yX3_takeSign cX3_takeSign 2 (some .boolean)) ({ frames := 2, cells := 0, slots := 0, locals := 42 } : Room) M0 N [.ref a, .int p1] (qMod N (some (.int (qbi ((s_X3_takeSign v p1).1)))) (fun M' => qLI cs M' a ((s_X3_takeSign v p1).2) ∧ qFr (qIn a 5) M0 M')) 0 0 := by
  obtain ⟨R, hR⟩ : ∃ R, s_X3_takeSign v p1 = R := ⟨_, rfl⟩
  rw [hR]
  rw [s_X3_takeSign] at hR
  refine q_head (by decide +kernel) ?_ (Nat.le_of_ble_eq_true rfl)
  intro p e s m below meth c ls hx hb hret hlk hml hown hnm hg hK hN hI hl
  have hl : lv_has ls 2 [(0, .ref a), (1, .int p1)] := hl
  have hS : qFr (qIn a 5) M0 M0 := qFr.rf
  refine lv_aload_n hx hb dX3_takeSign_0 rfl (lv_at hl 0 rfl) ?_
  refine lv_aload_n hx hb dX3_takeSign_1 rfl (lv_at hl 0 rfl) ?_
  refine q_get hx hb hg in_X3 hown hK hI hL0.1 rfl 6 (by decide) (hg _ wf_X3_38) (fun _ h9 => h9) rfl dX3_takeSign_2 ?_
  refine q_goR (q_runV (As := [.int v.2.2.2.2.2.2]) (rest := []) hx hb hml hown hg (c_X3_codeAt l D cs hL0 v.2.2.2.2.2.2) v_X3_codeAt wl_X3_85 rfl rfl ⟨Nat.le_of_ble_eq_true rfl, Nat.le_of_ble_eq_true rfl⟩ hI hK 4 hL0.1 rfl hl.1 rfl rfl (Nat.le_of_ble_eq_true rfl) dX3_takeSign_5 ⟨Nat.le_of_ble_eq_true rfl, Nat.le_of_ble_eq_true rfl⟩) hI (fun H locs hI => ?_)
  refine lv_iload_n hx hb dX3_takeSign_8 rfl (lv_at hl 1 rfl) ?_
  refine lv_icmp_eq (tgt := 14) hx hb dX3_takeSign_9 (by decide) (fun c1 => ?_) (fun c1 => ?_)
  · rw [if_pos c1] at hR
    refine lv_aload_n hx hb dX3_takeSign_14 rfl (lv_at hl 0 rfl) ?_
    refine lv_dup hx hb dX3_takeSign_15 rfl ?_
    refine q_get hx hb hg in_X3 hown hK hI hL0.1 rfl 6 (by decide) (hg _ wf_X3_38) (fun _ h9 => h9) rfl dX3_takeSign_16 ?_
    refine lv_iconst (v := 1) hx hb dX3_takeSign_19 (by decide) ?_
    refine lv_iadd hx hb dX3_takeSign_20 ?_
    have hn := qLI.i6 (v.2.2.2.2.2.2 + 1) hL0
    refine q_put (v := .int (v.2.2.2.2.2.2 + 1)) hx hb hg in_X3 tyX3_ok nmX3 hown hK hI hL0.1 rfl 6 (by decide) (hg _ wf_X3_38) (fun _ h9 => h9) rfl rfl rfl (Nat.le_of_ble_eq_true rfl) dX3_takeSign_21 (fun H locs hI => ?_)
    obtain ⟨M, hn, hF, hI⟩ : ∃ Mx : qM, qLI cs Mx a (v.1, v.2.1, v.2.2.1, v.2.2.2.1, v.2.2.2.2.1, v.2.2.2.2.2.1, v.2.2.2.2.2.2 + 1) ∧ qFr (qIn a 1) M0 Mx ∧ qI D M0 s.heap Mx N H locs := ⟨_, hn, qFr.up (by decide), hI⟩
    have hL0 := hn
    have hS := hS.tr hF (fun q hq => by omega)
    refine lv_iconst (v := 1) hx hb dX3_takeSign_24 (by decide) ?_
    exact q_zret hx hb hret rfl hlk hN hI (by subst hR; exact ⟨rfl, ⟨hL0, hS⟩, rfl⟩) dX3_takeSign_25
  · rw [if_neg c1] at hR
    refine lv_iconst (v := 0) hx hb dX3_takeSign_12 (by decide) ?_
    exact q_zret hx hb hret rfl hlk hN hI (by subst hR; exact ⟨rfl, ⟨hL0, hS⟩, rfl⟩) dX3_takeSign_13
def s_X3_takeDigit (v : qIV)  : Int32 × qIV := (if (s_X3_codeAt v v.2.2.2.2.2.2) < 48 then ((-1), v) else (if (s_X3_codeAt v v.2.2.2.2.2.2) ≤ 57 then ((s_X3_codeAt v v.2.2.2.2.2.2) - 48, (v.1, v.2.1, v.2.2.1, v.2.2.2.1, v.2.2.2.2.1, v.2.2.2.2.2.1, v.2.2.2.2.2.2 + 1)) else ((-1), v)))
set_option maxHeartbeats 4000000 in
set_option maxRecDepth 20000 in
theorem c_X3_takeDigit (l : Launch) (D : va_G) (cs : qC) {M0 : qM} {N a : Nat} {v : qIV} (hL0 : qLI cs M0 a v) :
    qMet l D cs yX3_takeDigit (qws yX3_takeDigit cX3_takeDigit 2 (some .int)) ({ frames := 2, cells := 0, slots := 0, locals := 42 } : Room) M0 N [.ref a] (qMod N (some (.int ((s_X3_takeDigit v).1))) (fun M' => qLI cs M' a ((s_X3_takeDigit v).2) ∧ qFr (qIn a 5) M0 M')) 0 0 := by
  obtain ⟨R, hR⟩ : ∃ R, s_X3_takeDigit v = R := ⟨_, rfl⟩
  rw [hR]
  rw [s_X3_takeDigit] at hR
  refine q_head (by decide +kernel) ?_ (Nat.le_of_ble_eq_true rfl)
  intro p e s m below meth c ls hx hb hret hlk hml hown hnm hg hK hN hI hl
  have hl : lv_has ls 2 [(0, .ref a)] := hl
  have hS : qFr (qIn a 5) M0 M0 := qFr.rf
  refine lv_aload_n hx hb dX3_takeDigit_0 rfl (lv_at hl 0 rfl) ?_
  refine lv_aload_n hx hb dX3_takeDigit_1 rfl (lv_at hl 0 rfl) ?_
  refine q_get hx hb hg in_X3 hown hK hI hL0.1 rfl 6 (by decide) (hg _ wf_X3_38) (fun _ h9 => h9) rfl dX3_takeDigit_2 ?_
  refine q_goR (q_runV (As := [.int v.2.2.2.2.2.2]) (rest := []) hx hb hml hown hg (c_X3_codeAt l D cs hL0 v.2.2.2.2.2.2) v_X3_codeAt wl_X3_85 rfl rfl ⟨Nat.le_of_ble_eq_true rfl, Nat.le_of_ble_eq_true rfl⟩ hI hK 4 hL0.1 rfl hl.1 rfl rfl (Nat.le_of_ble_eq_true rfl) dX3_takeDigit_5 ⟨Nat.le_of_ble_eq_true rfl, Nat.le_of_ble_eq_true rfl⟩) hI (fun H locs hI => ?_)
  refine lv_istore_n (lv' := [(1, .int (s_X3_codeAt v v.2.2.2.2.2.2)), (0, .ref a)]) hx hb dX3_takeDigit_8 rfl hl (by decide) rfl (fun ls hl => ?_)
  refine lv_iload_n hx hb dX3_takeDigit_9 rfl (lv_at hl 0 rfl) ?_
  refine lv_bipush (v := 48) hx hb dX3_takeDigit_10 (by decide) ?_
  refine lv_icmp_lt (tgt := 21) hx hb dX3_takeDigit_12 (by decide) (fun c1 => ?_) (fun c1 => ?_)
  · rw [if_pos c1] at hR
    refine lv_iconst (v := (-1)) hx hb dX3_takeDigit_21 (by decide) ?_
    exact q_iret hx hb hret hlk hN hI (by subst hR; exact ⟨rfl, ⟨hL0, hS⟩, rfl⟩) dX3_takeDigit_22
  · rw [if_neg c1] at hR
    refine lv_iload_n hx hb dX3_takeDigit_15 rfl (lv_at hl 0 rfl) ?_
    refine lv_bipush (v := 57) hx hb dX3_takeDigit_16 (by decide) ?_
    refine lv_icmp_le (tgt := 23) hx hb dX3_takeDigit_18 (by decide) (fun c2 => ?_) (fun c2 => ?_)
    · rw [if_pos c2] at hR
      refine lv_aload_n hx hb dX3_takeDigit_23 rfl (lv_at hl 1 rfl) ?_
      refine lv_dup hx hb dX3_takeDigit_24 rfl ?_
      refine q_get hx hb hg in_X3 hown hK hI hL0.1 rfl 6 (by decide) (hg _ wf_X3_38) (fun _ h9 => h9) rfl dX3_takeDigit_25 ?_
      refine lv_iconst (v := 1) hx hb dX3_takeDigit_28 (by decide) ?_
      refine lv_iadd hx hb dX3_takeDigit_29 ?_
      have hn := qLI.i6 (v.2.2.2.2.2.2 + 1) hL0
      refine q_put (v := .int (v.2.2.2.2.2.2 + 1)) hx hb hg in_X3 tyX3_ok nmX3 hown hK hI hL0.1 rfl 6 (by decide) (hg _ wf_X3_38) (fun _ h9 => h9) rfl rfl rfl (Nat.le_of_ble_eq_true rfl) dX3_takeDigit_30 (fun H locs hI => ?_)
      obtain ⟨M, hn, hF, hI⟩ : ∃ Mx : qM, qLI cs Mx a (v.1, v.2.1, v.2.2.1, v.2.2.2.1, v.2.2.2.2.1, v.2.2.2.2.2.1, v.2.2.2.2.2.2 + 1) ∧ qFr (qIn a 1) M0 Mx ∧ qI D M0 s.heap Mx N H locs := ⟨_, hn, qFr.up (by decide), hI⟩
      have hL0 := hn
      have hS := hS.tr hF (fun q hq => by omega)
      refine lv_iload_n hx hb dX3_takeDigit_33 rfl (lv_at hl 0 rfl) ?_
      refine lv_bipush (v := 48) hx hb dX3_takeDigit_34 (by decide) ?_
      refine lv_isub hx hb dX3_takeDigit_36 ?_
      exact q_iret hx hb hret hlk hN hI (by subst hR; exact ⟨rfl, ⟨hL0, hS⟩, rfl⟩) dX3_takeDigit_37
    · rw [if_neg c2] at hR
      refine lv_iconst (v := (-1)) hx hb dX3_takeDigit_21 (by decide) ?_
      exact q_iret hx hb hret hlk hN hI (by subst hR; exact ⟨rfl, ⟨hL0, hS⟩, rfl⟩) dX3_takeDigit_22
def s_X3_takeNumber (v : qIV)  : Int32 × qIV := (if 0 ≤ (s_X3_takeDigit v).1 then (if 0 ≤ (s_X3_takeDigit (s_X3_takeDigit v).2).1 then (((s_X3_takeDigit v).1 * 10) + (s_X3_takeDigit (s_X3_takeDigit v).2).1, (s_X3_takeDigit (s_X3_takeDigit v).2).2) else ((s_X3_takeDigit v).1, (s_X3_takeDigit (s_X3_takeDigit v).2).2)) else ((-1), (s_X3_takeDigit v).2))
set_option maxHeartbeats 4000000 in
set_option maxRecDepth 20000 in
theorem c_X3_takeNumber (l : Launch) (D : va_G) (cs : qC) {M0 : qM} {N a : Nat} {v : qIV} (hL0 : qLI cs M0 a v) :
    qMet l D cs yX3_takeNumber (qws yX3_takeNumber cX3_takeNumber 3 (some .int)) ({ frames := 3, cells := 0, slots := 0, locals := 63 } : Room) M0 N [.ref a] (qMod N (some (.int ((s_X3_takeNumber v).1))) (fun M' => qLI cs M' a ((s_X3_takeNumber v).2) ∧ qFr (qIn a 5) M0 M')) 0 0 := by
  obtain ⟨R, hR⟩ : ∃ R, s_X3_takeNumber v = R := ⟨_, rfl⟩
  rw [hR]
  rw [s_X3_takeNumber] at hR
  refine q_head (by decide +kernel) ?_ (Nat.le_of_ble_eq_true rfl)
  intro p e s m below meth c ls hx hb hret hlk hml hown hnm hg hK hN hI hl
  have hl : lv_has ls 3 [(0, .ref a)] := hl
  have hS : qFr (qIn a 5) M0 M0 := qFr.rf
  refine lv_aload_n hx hb dX3_takeNumber_0 rfl (lv_at hl 0 rfl) ?_
  refine q_goP (q_runV (As := []) (rest := []) hx hb hml hown hg (c_X3_takeDigit l D cs hL0) v_X3_takeDigit wl_X3_93 rfl rfl ⟨Nat.le_of_ble_eq_true rfl, Nat.le_of_ble_eq_true rfl⟩ hI hK 4 hL0.1 rfl hl.1 rfl rfl (Nat.le_of_ble_eq_true rfl) dX3_takeNumber_1 ⟨Nat.le_of_ble_eq_true rfl, Nat.le_of_ble_eq_true rfl⟩) hI (fun M H locs hp hI => ?_)
  obtain ⟨hn0, hF⟩ := hp
  generalize heg1 : s_X3_takeDigit v = g1 at hn0 hR ⊢
  have hn := hn0
  have hL0 := hn
  have hS := hS.tr hF (fun q hq => by omega)
  refine lv_istore_n (lv' := [(1, .int g1.1), (0, .ref a)]) hx hb dX3_takeNumber_4 rfl hl (by decide) rfl (fun ls hl => ?_)
  refine lv_iload_n hx hb dX3_takeNumber_5 rfl (lv_at hl 0 rfl) ?_
  refine lv_if_ge (tgt := 11) hx hb dX3_takeNumber_6 (by decide) (fun c2 => ?_) (fun c2 => ?_)
  · rw [if_pos c2] at hR
    refine lv_aload_n hx hb dX3_takeNumber_11 rfl (lv_at hl 1 rfl) ?_
    refine q_goP (q_runV (As := []) (rest := []) hx hb hml hown hg (c_X3_takeDigit l D cs hL0) v_X3_takeDigit wl_X3_93 rfl rfl ⟨Nat.le_of_ble_eq_true rfl, Nat.le_of_ble_eq_true rfl⟩ hI hK 4 hL0.1 rfl hl.1 rfl rfl (Nat.le_of_ble_eq_true rfl) dX3_takeNumber_12 ⟨Nat.le_of_ble_eq_true rfl, Nat.le_of_ble_eq_true rfl⟩) hI (fun M H locs hp hI => ?_)
    obtain ⟨hn0, hF⟩ := hp
    generalize heg3 : s_X3_takeDigit g1.2 = g3 at hn0 hR ⊢
    have hn := hn0
    have hL0 := hn
    have hS := hS.tr hF (fun q hq => by omega)
    refine lv_istore_n (lv' := [(2, .int g3.1), (1, .int g1.1), (0, .ref a)]) hx hb dX3_takeNumber_15 rfl hl (by decide) rfl (fun ls hl => ?_)
    refine lv_iload_n hx hb dX3_takeNumber_16 rfl (lv_at hl 0 rfl) ?_
    refine lv_if_ge (tgt := 24) hx hb dX3_takeNumber_17 (by decide) (fun c4 => ?_) (fun c4 => ?_)
    · rw [if_pos c4] at hR
      refine lv_iload_n hx hb dX3_takeNumber_24 rfl (lv_at hl 1 rfl) ?_
      refine lv_bipush (v := 10) hx hb dX3_takeNumber_25 (by decide) ?_
      refine lv_imul hx hb dX3_takeNumber_27 ?_
      refine lv_iload_n hx hb dX3_takeNumber_28 rfl (lv_at hl 0 rfl) ?_
      refine lv_iadd hx hb dX3_takeNumber_29 ?_
      exact q_iret hx hb hret hlk hN hI (by subst hR; exact ⟨rfl, ⟨hL0, hS⟩, rfl⟩) dX3_takeNumber_30
    · rw [if_neg c4] at hR
      refine lv_iload_n hx hb dX3_takeNumber_20 rfl (lv_at hl 1 rfl) ?_
      refine lv_goto (tgt := 30) hx hb dX3_takeNumber_21 (by decide) ?_
      exact q_iret hx hb hret hlk hN hI (by subst hR; exact ⟨rfl, ⟨hL0, hS⟩, rfl⟩) dX3_takeNumber_30
  · rw [if_neg c2] at hR
    refine lv_iconst (v := (-1)) hx hb dX3_takeNumber_9 (by decide) ?_
    exact q_iret hx hb hret hlk hN hI (by subst hR; exact ⟨rfl, ⟨hL0, hS⟩, rfl⟩) dX3_takeNumber_10
