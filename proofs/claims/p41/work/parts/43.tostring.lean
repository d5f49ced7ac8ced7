/-! TEXT BUILDERS: append(int) of 0 to 99, toString() -/
theorem nb_byte : ∀ n : Nat, n < 128 → narrow .byte (.int (nI n)) = .int (nI n) := by decide +kernel
theorem nb_fit : ∀ n : Nat, n < 128 → fits .byte (.int (nI n)) = true := by decide +kernel
theorem ds_fit (x : Nat) (hx : x < 100) : sb_Fit (fun j => (ds x).getD j 0) := fun j => by
  show fits .byte (.int ((ds x).getD j 0)) = true
  unfold ds
  split
  · match j with
    | 0 => exact nb_fit _ (by omega)
    | j + 1 => exact nb_fit 0 (by decide)
  · match j with
    | 0 => exact nb_fit _ (by omega)
    | 1 => exact nb_fit _ (by omega)
    | j + 2 => exact nb_fit 0 (by decide)
theorem nI_pred1 (n : Nat) : nI (n + 1) + Int32.ofInt (-1) = nI n := pk_m1 n

set_option maxHeartbeats 4000000 in
theorem c_J6_stringSize (l : Launch) (D : va_G) (cs : qC) {N00 : Nat} {M0 : qM} {N x : Nat} (hd : qDom N00 M0 N) (hx0 : x < 100) :
    qMetF l (jW N00 cs) D cs yJ6_stringSize_0f7a4 (qws yJ6_stringSize_0f7a4 cJ6_stringSize_0f7a4 4 (some .int)) (qRmc 1 90 0 0) M0 N [.int (nI x)] (qRet M0 N (.int (nI (dg x)))) 0 0 := by
  refine f_head (by decide +kernel) ?_ (Nat.le_of_ble_eq_true rfl)
  intro p e s m below meth c ls hx hb hret hlk hml hown hnm hg hK hN hP hI hl
  have hl : lv_has ls 4 [(0, .int (nI x))] := hl
  refine lv_iconst (v := 1) hx hb dJ6_stringSize_0f7a4_0 (by decide) ?_
  refine lv_istore_n (lv' := [(1, .int 1), (0, .int (nI x))]) hx hb dJ6_stringSize_0f7a4_1 rfl hl (by decide) rfl (fun ls hl => ?_)
  refine lv_iload_n hx hb dJ6_stringSize_0f7a4_2 rfl (lv_at hl 1 rfl) ?_
  refine lv_if_lt (tgt := 11) hx hb dJ6_stringSize_0f7a4_3 (by decide) (fun h9 => absurd h9 (nI_pos (by omega))) (fun h9 => ?_)
  refine lv_iconst (v := 0) hx hb dJ6_stringSize_0f7a4_6 (by decide) ?_
  refine lv_istore_n (lv' := [(1, .int 0), (0, .int (nI x))]) hx hb dJ6_stringSize_0f7a4_7 rfl hl (by decide) rfl (fun ls hl => ?_)
  refine lv_iload_n hx hb dJ6_stringSize_0f7a4_8 rfl (lv_at hl 1 rfl) ?_
  refine lv_ineg hx hb dJ6_stringSize_0f7a4_9 ?_
  refine lv_istore_n (lv' := [(0, .int (-(nI x))), (1, .int 0)]) hx hb dJ6_stringSize_0f7a4_10 rfl hl (by decide) rfl (fun ls hl => ?_)
  refine lv_bipush (v := (-10)) hx hb dJ6_stringSize_0f7a4_11 (by decide) ?_
  refine lv_istore_n (lv' := [(2, .int (-10)), (0, .int (-(nI x))), (1, .int 0)]) hx hb dJ6_stringSize_0f7a4_13 rfl hl (by decide) rfl (fun ls hl => ?_)
  refine lv_iconst (v := 1) hx hb dJ6_stringSize_0f7a4_14 (by decide) ?_
  refine lv_istore_n (lv' := [(3, .int 1), (2, .int (-10)), (0, .int (-(nI x))), (1, .int 0)]) hx hb dJ6_stringSize_0f7a4_15 rfl hl (by decide) rfl (fun ls hl => ?_)
  refine lv_iload_n hx hb dJ6_stringSize_0f7a4_16 rfl (lv_at hl 0 rfl) ?_
  refine lv_bipush (v := 10) hx hb dJ6_stringSize_0f7a4_17 (by decide) ?_
  refine lv_icmp_ge (tgt := 42) hx hb dJ6_stringSize_0f7a4_19 (by decide) (fun h9 => absurd h9 (by decide)) (fun h9 => ?_)
  refine lv_iload_n hx hb dJ6_stringSize_0f7a4_22 rfl (lv_at hl 2 rfl) ?_
  refine lv_iload_n hx hb dJ6_stringSize_0f7a4_23 rfl (lv_at hl 1 rfl) ?_
  by_cases h10 : x < 10
  · refine lv_icmp_le (tgt := 31) hx hb dJ6_stringSize_0f7a4_24 (by decide) (fun h9 => absurd ((sb_nle (by omega) (by decide : 10 < 2 ^ 31)).mp h9) (by omega)) (fun h9 => ?_)
    refine lv_iload_n hx hb dJ6_stringSize_0f7a4_27 rfl (lv_at hl 0 rfl) ?_
    refine lv_iload_n hx hb dJ6_stringSize_0f7a4_28 rfl (lv_at hl 3 rfl) ?_
    refine lv_iadd hx hb dJ6_stringSize_0f7a4_29 ?_
    rw [show dg x = 1 from if_pos h10]
    exact q_iret hx hb hret hlk hN hI ⟨rfl, rfl, rfl⟩ dJ6_stringSize_0f7a4_30
  · refine lv_icmp_le (tgt := 31) hx hb dJ6_stringSize_0f7a4_24 (by decide) (fun h9 => ?_) (fun h9 => absurd ((sb_nle (by omega) (by decide : 10 < 2 ^ 31)).mpr (by omega)) h9)
    refine lv_bipush (v := 10) hx hb dJ6_stringSize_0f7a4_31 (by decide) ?_
    refine lv_iload_n hx hb dJ6_stringSize_0f7a4_33 rfl (lv_at hl 1 rfl) ?_
    refine lv_imul hx hb dJ6_stringSize_0f7a4_34 ?_
    refine lv_istore_n (lv' := [(2, .int (10 * (-10))), (3, .int 1), (0, .int (-(nI x))), (1, .int 0)]) hx hb dJ6_stringSize_0f7a4_35 rfl hl (by decide) rfl (fun ls hl => ?_)
    refine lv_iinc (v := 2) (lv' := [(3, .int 2), (2, .int (10 * (-10))), (0, .int (-(nI x))), (1, .int 0)]) hx hb dJ6_stringSize_0f7a4_36 hl (k := 1) rfl rfl (by decide) rfl (fun ls hl => ?_)
    refine lv_goto (tgt := 16) hx hb dJ6_stringSize_0f7a4_39 (by decide) ?_
    refine lv_iload_n hx hb dJ6_stringSize_0f7a4_16 rfl (lv_at hl 0 rfl) ?_
    refine lv_bipush (v := 10) hx hb dJ6_stringSize_0f7a4_17 (by decide) ?_
    refine lv_icmp_ge (tgt := 42) hx hb dJ6_stringSize_0f7a4_19 (by decide) (fun h9 => absurd h9 (by decide)) (fun h9 => ?_)
    refine lv_iload_n hx hb dJ6_stringSize_0f7a4_22 rfl (lv_at hl 2 rfl) ?_
    refine lv_iload_n hx hb dJ6_stringSize_0f7a4_23 rfl (lv_at hl 1 rfl) ?_
    refine lv_icmp_le (tgt := 31) hx hb dJ6_stringSize_0f7a4_24 (by decide) (fun h9 => absurd ((sb_nle (by omega) (by decide : 100 < 2 ^ 31)).mp h9) (by omega)) (fun h9 => ?_)
    refine lv_iload_n hx hb dJ6_stringSize_0f7a4_27 rfl (lv_at hl 0 rfl) ?_
    refine lv_iload_n hx hb dJ6_stringSize_0f7a4_28 rfl (lv_at hl 3 rfl) ?_
    refine lv_iadd hx hb dJ6_stringSize_0f7a4_29 ?_
    rw [show dg x = 2 from if_neg h10]
    exact q_iret hx hb hret hlk hN hI ⟨rfl, rfl, rfl⟩ dJ6_stringSize_0f7a4_30
set_option maxHeartbeats 4000000 in
theorem c_J6_getChars (l : Launch) (D : va_G) (cs : qC) {N00 : Nat} {M0 : qM} {N n k v x : Nat} (hd : qDom N00 M0 N) {f : Nat → Int32} (hx0 : x < 100) (hkn : k + dg x ≤ n) (hn : n ≤ 34) (hMv : M0 v = some (qbyt cs n f)) :
    qMetF l (jW N00 cs) D cs yJ6_getChars_ba4f3 (qws yJ6_getChars_ba4f3 cJ6_getChars_ba4f3 7 (some .int)) (qRmc 1 90 0 0) M0 N [.int (nI x), .int (nI (k + dg x)), .ref v] (fun r M' N' => (∃ z, r = some (.int z)) ∧ (∃ f', M' = qUp M0 v (qbyt cs n f') ∧ (∀ j, j < k → f' j = f j) ∧ (∀ j, j < (ds x).length → f' (k + j) = (ds x).getD j 0) ∧ (sb_Fit f → sb_Fit f')) ∧ N' = N) 0 0 := by
  refine f_head (by decide +kernel) ?_ (Nat.le_of_ble_eq_true rfl)
  intro p e s m below meth c ls hx hb hret hlk hml hown hnm hg hK hN hP hI hl
  have hl : lv_has ls 7 [(0, .int (nI x)), (1, .int (nI (k + dg x))), (2, .ref v)] := hl
  have hdg := dg_le x
  have hdg0 : 1 ≤ dg x := by unfold dg; split <;> omega
  refine lv_iload_n hx hb dJ6_getChars_ba4f3_0 rfl (lv_at hl 1 rfl) ?_
  refine lv_istore (lv' := [(5, .int (nI (k + dg x))), (0, .int (nI x)), (1, .int (nI (k + dg x))), (2, .ref v)]) hx hb dJ6_getChars_ba4f3_1 hl (by decide) rfl (fun ls hl => ?_)
  refine lv_iload_n hx hb dJ6_getChars_ba4f3_3 rfl (lv_at hl 1 rfl) ?_
  refine lv_if_ge (tgt := 11) hx hb dJ6_getChars_ba4f3_4 (by decide) (fun h9 => ?_) (fun h9 => absurd (nI_pos' (n := x) (by omega)) h9)
  refine lv_iconst (v := 0) hx hb dJ6_getChars_ba4f3_11 (by decide) ?_
  refine lv_istore (lv' := [(6, .int 0), (5, .int (nI (k + dg x))), (0, .int (nI x)), (1, .int (nI (k + dg x))), (2, .ref v)]) hx hb dJ6_getChars_ba4f3_12 hl (by decide) rfl (fun ls hl => ?_)
  refine lv_iload hx hb dJ6_getChars_ba4f3_14 (lv_at hl 0 rfl) ?_
  refine lv_if_ne (tgt := 22) hx hb dJ6_getChars_ba4f3_16 (by decide) (fun h9 => absurd rfl h9) (fun h9 => ?_)
  refine lv_iload_n hx hb dJ6_getChars_ba4f3_19 rfl (lv_at hl 2 rfl) ?_
  refine lv_ineg hx hb dJ6_getChars_ba4f3_20 ?_
  refine lv_istore_n (lv' := [(0, .int (-(nI x))), (6, .int 0), (5, .int (nI (k + dg x))), (1, .int (nI (k + dg x))), (2, .ref v)]) hx hb dJ6_getChars_ba4f3_21 rfl hl (by decide) rfl (fun ls hl => ?_)
  refine lv_iload_n hx hb dJ6_getChars_ba4f3_22 rfl (lv_at hl 0 rfl) ?_
  refine lv_bipush (v := (-100)) hx hb dJ6_getChars_ba4f3_23 (by decide) ?_
  refine lv_icmp_gt (tgt := 72) hx hb dJ6_getChars_ba4f3_25 (by decide) (fun h9 => ?_) (fun h9 => absurd ((sb_nlt (a := 100) (b := x) (by decide) (by omega)).mpr (by omega)) h9)
  refine lv_aload_n hx hb dJ6_getChars_ba4f3_72 rfl (lv_at hl 4 rfl) ?_
  obtain ⟨d, hd1⟩ : ∃ d, dg x = d + 1 := ⟨dg x - 1, by omega⟩
  refine lv_iinc (v := nI (k + d)) (lv' := [(5, .int (nI (k + d))), (0, .int (-(nI x))), (6, .int 0), (1, .int (nI (k + dg x))), (2, .ref v)]) hx hb dJ6_getChars_ba4f3_73 hl (k := 2) rfl (by rw [hd1, ← Nat.add_assoc]; exact nI_pred1 _) (by decide) rfl (fun ls hl => ?_)
  refine lv_iload hx hb dJ6_getChars_ba4f3_76 (lv_at hl 0 rfl) ?_
  refine va_gets hx hb hP.2.1.1 (hI.zS hN hd) hown (hg _ wf_J6_83) (fun _ h9 => h9) dJ6_getChars_ba4f3_78 ?_
  refine lv_iload_n hx hb dJ6_getChars_ba4f3_81 rfl (lv_at hl 1 rfl) ?_
  refine lv_ineg hx hb dJ6_getChars_ba4f3_82 ?_
  rw [Int32.neg_neg]
  refine va_tb hx hb hP.2.1.2 (hI.zS hN hd) (vp_in_nI (by omega) (by decide)) (v := .int (nI (48 + x % 10))) (by rw [nI_clamp (by omega)]) dJ6_getChars_ba4f3_83 ?_
  refine q_bast hx hb hK hI hMv (vp_in_nI (by omega) (by omega)) (nb_byte _ (by omega)) dJ6_getChars_ba4f3_84 (fun H locs hI => ?_)
  rw [nI_clamp (by omega)] at hI
  refine lv_iload_n hx hb dJ6_getChars_ba4f3_85 rfl (lv_at hl 1 rfl) ?_
  refine lv_bipush (v := (-9)) hx hb dJ6_getChars_ba4f3_86 (by decide) ?_
  by_cases h10 : x < 10
  · refine lv_icmp_ge (tgt := 104) hx hb dJ6_getChars_ba4f3_88 (by decide) (fun h9 => ?_) (fun h9 => absurd ((sb_nle (a := 9) (b := x) (by decide) (by omega)).mpr (by omega)) h9)
    refine lv_iload hx hb dJ6_getChars_ba4f3_104 (lv_at hl 2 rfl) ?_
    refine lv_if_eq (tgt := 118) hx hb dJ6_getChars_ba4f3_106 (by decide) (fun h9 => ?_) (fun h9 => absurd rfl h9)
    refine lv_iload hx hb dJ6_getChars_ba4f3_118 (lv_at hl 0 rfl) ?_
    have h1 : d = 0 := by unfold dg at hd1; rw [if_pos h10] at hd1; omega
    subst h1
    refine q_iret hx hb hret hlk hN hI ⟨⟨_, rfl⟩, ⟨_, rfl, fun j hj => pk_un (by omega), fun j hj => ?_, fun hf => sb_fitU hf (nb_fit _ (by omega))⟩, rfl⟩ dJ6_getChars_ba4f3_120
    rw [ds_len, show dg x = 1 from if_pos h10] at hj
    have h2 : j = 0 := by omega
    subst h2
    rw [show ds x = [nI (48 + x)] from if_pos h10]
    show upd f (k + 0) _ (k + 0) = nI (48 + x)
    rw [pk_us, Nat.mod_eq_of_lt h10]
  · refine lv_icmp_ge (tgt := 104) hx hb dJ6_getChars_ba4f3_88 (by decide) (fun h9 => absurd ((sb_nle (a := 9) (b := x) (by decide) (by omega)).mp h9) (by omega)) (fun h9 => ?_)
    have h1 : d = 1 := by unfold dg at hd1; rw [if_neg h10] at hd1; omega
    subst h1
    refine lv_aload_n hx hb dJ6_getChars_ba4f3_91 rfl (lv_at hl 4 rfl) ?_
    refine lv_iinc (v := nI k) (lv' := [(5, .int (nI k)), (0, .int (-(nI x))), (6, .int 0), (1, .int (nI (k + dg x))), (2, .ref v)]) hx hb dJ6_getChars_ba4f3_92 hl (k := 0) rfl (nI_pred1 _) (by decide) rfl (fun ls hl => ?_)
    refine lv_iload hx hb dJ6_getChars_ba4f3_95 (lv_at hl 0 rfl) ?_
    refine va_gets hx hb hP.2.2.1.1 (hI.zS hN hd) hown (hg _ wf_J6_87) (fun _ h9 => h9) dJ6_getChars_ba4f3_97 ?_
    refine lv_iload_n hx hb dJ6_getChars_ba4f3_100 rfl (lv_at hl 1 rfl) ?_
    refine lv_ineg hx hb dJ6_getChars_ba4f3_101 ?_
    rw [Int32.neg_neg]
    refine va_tb hx hb hP.2.2.1.2 (hI.zS hN hd) (vp_in_nI (by omega) (by decide)) (v := .int (nI (48 + x / 10))) (by rw [nI_clamp (by omega)]) dJ6_getChars_ba4f3_102 ?_
    refine q_bast hx hb hK hI (qUp_at _ _ _) (vp_in_nI (by omega) (by omega)) (nb_byte _ (by omega)) dJ6_getChars_ba4f3_103 (fun H locs hI => ?_)
    rw [nI_clamp (by omega), qUp_tw] at hI
    refine lv_iload hx hb dJ6_getChars_ba4f3_104 (lv_at hl 2 rfl) ?_
    refine lv_if_eq (tgt := 118) hx hb dJ6_getChars_ba4f3_106 (by decide) (fun h9 => ?_) (fun h9 => absurd rfl h9)
    refine lv_iload hx hb dJ6_getChars_ba4f3_118 (lv_at hl 0 rfl) ?_
    refine q_iret hx hb hret hlk hN hI ⟨⟨_, rfl⟩, ⟨_, rfl, fun j hj => (pk_un (by omega)).trans (pk_un (by omega)), fun j hj => ?_, fun hf => sb_fitU (sb_fitU hf (nb_fit _ (by omega))) (nb_fit _ (by omega))⟩, rfl⟩ dJ6_getChars_ba4f3_120
    rw [ds_len, show dg x = 2 from if_neg h10] at hj
    rw [show ds x = [nI (48 + x / 10), nI (48 + x % 10)] from if_neg h10]
    match j, hj with
    | 0, _ =>
      exact pk_us
    | 1, _ =>
      exact (pk_un (by omega)).trans pk_us
    | j + 2, h2 => exact absurd h2 (by omega)
set_option maxHeartbeats 4000000 in
theorem c_J5_isLatin1 (l : Launch) (D : va_G) (cs : qC) {N00 : Nat} {M0 : qM} {N b v : Nat} (hd : qDom N00 M0 N) {ct : Int32} (hMb : M0 b = some (.inr (1, [.ref v, .int 0, .int 0, .int ct]))) :
    qMetF l (jW N00 cs) D cs yJ5_isLatin1_aae02 (qws yJ5_isLatin1_aae02 cJ5_isLatin1_aae02 1 (some .boolean)) (qRmc 1 90 0 0) M0 N [.ref b] (qRet M0 N (.int 1)) 0 0 := by
  refine f_head (by decide +kernel) ?_ (Nat.le_of_ble_eq_true rfl)
  intro p e s m below meth c ls hx hb hret hlk hml hown hnm hg hK hN hP hI hl
  have hl : lv_has ls 1 [(0, .ref b)] := hl
  refine va_gets hx hb hP.1.1 (hI.zS hN hd) hown (hg _ wf_J5_18) (fun _ h9 => h9) dJ5_isLatin1_aae02_0 ?_
  refine lv_if_eq (tgt := 17) hx hb dJ5_isLatin1_aae02_3 (by decide) (fun h9 => absurd h9 (by decide)) (fun h9 => ?_)
  refine lv_aload_n hx hb dJ5_isLatin1_aae02_6 rfl (lv_at hl 0 rfl) ?_
  refine q_get hx hb hg in_J4 hown hK hI hMb rfl 1 (by decide) (hg _ wf_J5_22) (fun _ h9 => h9) rfl dJ5_isLatin1_aae02_7 ?_
  refine lv_if_ne (tgt := 17) hx hb dJ5_isLatin1_aae02_10 (by decide) (fun h9 => absurd rfl h9) (fun h9 => ?_)
  refine lv_iconst (v := 1) hx hb dJ5_isLatin1_aae02_13 (by decide) ?_
  refine lv_goto (tgt := 18) hx hb dJ5_isLatin1_aae02_14 (by decide) ?_
  exact q_zret hx hb hret rfl hlk hN hI ⟨rfl, rfl, rfl⟩ dJ5_isLatin1_aae02_18
set_option maxHeartbeats 4000000 in
theorem c_J5_appendI (l : Launch) (D : va_G) (cs : qC) {N00 : Nat} {M0 : qM} {N K b x : Nat} (hd : qDom N00 M0 N) {L : List Int32} (hx0 : x < 100) (h34 : L.length + 2 ≤ 34) (hB : qB cs K 0 L.length M0 N b L) :
    qMetF l (jW N00 cs) D cs yJ5_append_c97b9 (qws yJ5_append_c97b9 cJ5_append_c97b9 4 (some (.object "java/lang/AbstractStringBuilder"))) (qRmc 4 360 1 34) M0 N [.ref b, .int (nI x)] (fun r M' N' => r = some (.ref b) ∧ qB cs K 0 (L ++ ds x).length M' N' b (L ++ ds x) ∧ qFr (qK0 K) M0 M' ∧ N ≤ N') 1 34 := by
  refine f_head (by decide +kernel) ?_ (Nat.le_of_ble_eq_true rfl)
  intro p e s m below meth c ls hx hb hret hlk hml hown hnm hg hK hN hP hI hl
  have hl : lv_has ls 4 [(0, .ref b), (1, .int (nI x))] := hl
  obtain ⟨v, n, f, hn, hLn, hwn, hKb, hKv, hKN, hMb, hMv, hf, hfit⟩ := hB
  have hdg := dg_le x
  refine lv_aload_n hx hb dJ5_append_c97b9_0 rfl (lv_at hl 0 rfl) ?_
  refine q_get hx hb hg in_J4 hown hK hI hMb rfl 3 (by decide) (hg _ wf_J5_79) (fun _ h9 => h9) rfl dJ5_append_c97b9_1 ?_
  refine lv_istore_n (lv' := [(2, .int (nI L.length)), (0, .ref b), (1, .int (nI x))]) hx hb dJ5_append_c97b9_4 rfl hl (by decide) rfl (fun ls hl => ?_)
  refine lv_iload_n hx hb dJ5_append_c97b9_5 rfl (lv_at hl 0 rfl) ?_
  refine lv_iload_n hx hb dJ5_append_c97b9_6 rfl (lv_at hl 2 rfl) ?_
  refine q_goR (f_runS (As := [.int (nI x)]) (rest := [.int (nI L.length)]) hx hb hml hown hg (c_J6_stringSize l D cs hd hx0) v_J6_stringSize_0f7a4 wl_J5_245 rfl rfl ⟨Nat.le_of_ble_eq_true rfl, Nat.le_of_ble_eq_true rfl⟩ hI hK jW.sw (hI.jw hN hd hP) hl.1 rfl rfl (Nat.le_of_ble_eq_true rfl) dJ5_append_c97b9_7 ⟨Nat.le_of_ble_eq_true rfl, Nat.le_of_ble_eq_true rfl⟩) hI (fun H locs hI => ?_)
  refine lv_iadd hx hb dJ5_append_c97b9_10 ?_
  rw [nI_add]
  refine lv_istore_n (lv' := [(3, .int (nI (L.length + dg x))), (2, .int (nI L.length)), (0, .ref b), (1, .int (nI x))]) hx hb dJ5_append_c97b9_11 rfl hl (by decide) rfl (fun ls hl => ?_)
  refine lv_aload_n hx hb dJ5_append_c97b9_12 rfl (lv_at hl 2 rfl) ?_
  refine lv_iload_n hx hb dJ5_append_c97b9_13 rfl (lv_at hl 0 rfl) ?_
  refine q_go (f_runU (As := [.int (nI (L.length + dg x))]) (rest := []) hx hb hml hown hg (c_J5_ensure l D cs hd (w := L.length + dg x) (by omega) ⟨v, n, f, hn, hLn, hwn, hKb, hKv, hKN, hMb, hMv, hf, hfit⟩) v_J5_ensureCapacityInternal_d00df wl_J5_100 rfl rfl ⟨Nat.le_of_ble_eq_true rfl, Nat.le_of_ble_eq_true rfl⟩ ⟨by decide +kernel, by decide +kernel⟩ rfl sm_J5_ensureCapacityInternal_d00df (va_Decl.of (hg _ v_J5_ensureCapacityInternal_d00df.2.1) (hg _ v_J5_ensureCapacityInternal_d00df.1)) (va_Nw.use rfl hP.2.2.2.2.1) hI hK jW.sw (hI.jw hN hd hP) hMb hl.1 rfl rfl (Nat.le_of_ble_eq_true rfl) dJ5_append_c97b9_14 ⟨Nat.le_of_ble_eq_true rfl, Nat.le_of_ble_eq_true rfl⟩) hI (fun r M N' H locs hp hI => ?_)
  clear hMb hMv hf hfit hn hLn hwn
  obtain ⟨rfl, ⟨v, n, f, hn, hLn, hwn, hKb, hKv, hKN', hMb, hMv, hf, hfit⟩, hF1, hle1⟩ := hp
  have hbv : b ≠ v := fun h => by rw [h, hMv] at hMb; cases hMb
  refine lv_aload_n hx hb dJ5_append_c97b9_17 rfl (lv_at hl 2 rfl) ?_
  refine q_goR (f_runU (As := []) (rest := []) hx hb hml hown hg (c_J5_isLatin1 l D cs (hI.dom hN hd) hMb) v_J5_isLatin1_aae02 wl_J5_83 rfl rfl ⟨Nat.le_of_ble_eq_true rfl, Nat.le_of_ble_eq_true rfl⟩ ⟨by decide +kernel, by decide +kernel⟩ rfl sm_J5_isLatin1_aae02 (va_Decl.of (hg _ v_J5_isLatin1_aae02.2.1) (hg _ v_J5_isLatin1_aae02.1)) (hg _ wx_selL) hI hK jW.sw (hI.jw hN hd hP) hMb hl.1 rfl rfl (Nat.le_of_ble_eq_true rfl) dJ5_append_c97b9_18 ⟨Nat.le_of_ble_eq_true rfl, Nat.le_of_ble_eq_true rfl⟩) hI (fun H locs hI => ?_)
  refine lv_if_eq (tgt := 37) hx hb dJ5_append_c97b9_21 (by decide) (fun h9 => absurd h9 (by decide)) (fun h9 => ?_)
  refine lv_iload_n hx hb dJ5_append_c97b9_24 rfl (lv_at hl 3 rfl) ?_
  refine lv_iload_n hx hb dJ5_append_c97b9_25 rfl (lv_at hl 0 rfl) ?_
  refine lv_aload_n hx hb dJ5_append_c97b9_26 rfl (lv_at hl 2 rfl) ?_
  refine q_get hx hb hg in_J4 hown hK hI hMb rfl 0 (by decide) (hg _ wf_J5_15) (fun _ h9 => h9) rfl dJ5_append_c97b9_27 ?_
  refine q_go (f_runS (As := [.int (nI x), .int (nI (L.length + dg x)), .ref v]) (rest := []) hx hb hml hown hg (c_J6_getChars l D cs (hI.dom hN hd) hx0 hwn (by omega) hMv) v_J6_getChars_ba4f3 wl_J5_248 rfl rfl ⟨Nat.le_of_ble_eq_true rfl, Nat.le_of_ble_eq_true rfl⟩ hI hK jW.sw (hI.jw hN hd hP) hl.1 rfl rfl (Nat.le_of_ble_eq_true rfl) dJ5_append_c97b9_30 ⟨Nat.le_of_ble_eq_true rfl, Nat.le_of_ble_eq_true rfl⟩) hI (fun r M N' H locs hp hI => ?_)
  obtain ⟨⟨z, rfl⟩, ⟨f', rfl, h1, h2, h3⟩, hNN⟩ := hp
  rw [hNN] at hI
  refine lv_pop hx hb dJ5_append_c97b9_33 rfl ?_
  refine lv_goto (tgt := 48) hx hb dJ5_append_c97b9_34 (by decide) ?_
  refine lv_aload_n hx hb dJ5_append_c97b9_48 rfl (lv_at hl 2 rfl) ?_
  refine lv_iload_n hx hb dJ5_append_c97b9_49 rfl (lv_at hl 0 rfl) ?_
  have hLT : (L ++ ds x).length = L.length + dg x := by rw [List.length_append, ds_len]
  refine q_put (v := .int (nI (L.length + dg x))) hx hb hg in_J4 tyJ4_ok nmJ4 hown hK hI ((qUp_ne hbv).trans hMb) rfl 3 (by decide) (hg _ wf_J5_79) (fun _ h9 => h9) rfl rfl rfl (Nat.le_of_ble_eq_true rfl) dJ5_append_c97b9_50 (fun H locs hI => ?_)
  refine lv_aload_n hx hb dJ5_append_c97b9_53 rfl (lv_at hl 2 rfl) ?_
  refine q_nret hx hb hret (Or.inl ⟨_, rfl⟩) (Or.inr ⟨_, rfl⟩) hlk hN hI ⟨rfl, ⟨v, n, f', hn, by omega, Nat.zero_le _, hKb, hKv, by omega, by rw [hLT]; exact qUp_at _ _ _, (qUp_ne (Ne.symm hbv)).trans (qUp_at _ _ _), fun j hj => ?_, h3 hfit⟩, hF1.tr (G := qK0 K) (fun q hq => (qUp_ne (by omega)).trans (qUp_ne (by omega))) (fun q hq => hq), by omega⟩ dJ5_append_c97b9_54
  by_cases hjL : j < L.length
  · rw [h1 j hjL, hf j hjL]
    simp only [List.getD_eq_getElem?_getD, List.getElem?_append_left hjL]
  · have h4 := h2 (j - L.length) (by rw [ds_len]; omega)
    rw [show L.length + (j - L.length) = j by omega] at h4
    rw [h4]
    simp only [List.getD_eq_getElem?_getD, List.getElem?_append_right (Nat.le_of_not_lt hjL)]
set_option maxHeartbeats 4000000 in
theorem c_J4_appendI (l : Launch) (D : va_G) (cs : qC) {N00 : Nat} {M0 : qM} {N K b x : Nat} (hd : qDom N00 M0 N) {L : List Int32} (hx0 : x < 100) (h34 : L.length + 2 ≤ 34) (hB : qB cs K 0 L.length M0 N b L) :
    qMetF l (jW N00 cs) D cs yJ4_append_bf812 (qws yJ4_append_bf812 cJ4_append_bf812 2 (some (.object "java/lang/StringBuilder"))) (qRmc 5 450 1 34) M0 N [.ref b, .int (nI x)] (fun r M' N' => r = some (.ref b) ∧ qB cs K 0 (L ++ ds x).length M' N' b (L ++ ds x) ∧ qFr (qK0 K) M0 M' ∧ N ≤ N') 1 34 := by
  refine f_head (by decide +kernel) ?_ (Nat.le_of_ble_eq_true rfl)
  intro p e s m below meth c ls hx hb hret hlk hml hown hnm hg hK hN hP hI hl
  have hl : lv_has ls 2 [(0, .ref b), (1, .int (nI x))] := hl
  obtain ⟨v, n, f, hb9⟩ := hB
  refine lv_aload_n hx hb dJ4_append_bf812_0 rfl (lv_at hl 0 rfl) ?_
  refine lv_iload_n hx hb dJ4_append_bf812_1 rfl (lv_at hl 1 rfl) ?_
  refine q_go (f_runSU (As := [.int (nI x)]) (rest := []) hx hb hml hown hg (c_J5_appendI l D cs hd hx0 h34 ⟨v, n, f, hb9⟩) v_J5_append_c97b9 wl_J4_53 rfl rfl ⟨Nat.le_of_ble_eq_true rfl, Nat.le_of_ble_eq_true rfl⟩ sm_J5_append_c97b9 wx_sup (by decide +kernel) hI hK jW.sw (hI.jw hN hd hP) hb9.2.2.2.2.2.2.1 hl.1 rfl rfl (Nat.le_of_ble_eq_true rfl) dJ4_append_bf812_2 ⟨Nat.le_of_ble_eq_true rfl, Nat.le_of_ble_eq_true rfl⟩) hI (fun r M N' H locs hp hI => ?_)
  obtain ⟨rfl, hB, hF, hle⟩ := hp
  refine lv_pop hx hb dJ4_append_bf812_5 rfl ?_
  refine lv_aload_n hx hb dJ4_append_bf812_6 rfl (lv_at hl 0 rfl) ?_
  exact q_nret hx hb hret (Or.inl ⟨_, rfl⟩) (Or.inr ⟨_, rfl⟩) hlk hN hI ⟨rfl, hB, hF, hle⟩ dJ4_append_bf812_7
set_option maxHeartbeats 4000000 in
theorem c_J5_getValue (l : Launch) (D : va_G) (cs : qC) {N00 : Nat} {M0 : qM} {N b v : Nat} (hd : qDom N00 M0 N) {ct : Int32} (hMb : M0 b = some (.inr (1, [.ref v, .int 0, .int 0, .int ct]))) :
    qMetF l (jW N00 cs) D cs yJ5_getValue_6d5f1 (qws yJ5_getValue_6d5f1 cJ5_getValue_6d5f1 1 (some (.array .byte))) (qRmc 1 90 0 0) M0 N [.ref b] (qRet M0 N (.ref v)) 0 0 := by
  refine f_head (by decide +kernel) ?_ (Nat.le_of_ble_eq_true rfl)
  intro p e s m below meth c ls hx hb hret hlk hml hown hnm hg hK hN hP hI hl
  have hl : lv_has ls 1 [(0, .ref b)] := hl
  refine lv_aload_n hx hb dJ5_getValue_6d5f1_0 rfl (lv_at hl 0 rfl) ?_
  refine q_get hx hb hg in_J4 hown hK hI hMb rfl 0 (by decide) (hg _ wf_J5_15) (fun _ h9 => h9) rfl dJ5_getValue_6d5f1_1 ?_
  exact q_nret hx hb hret (Or.inr ⟨_, rfl⟩) (Or.inr ⟨_, rfl⟩) hlk hN hI ⟨rfl, rfl, rfl⟩ dJ5_getValue_6d5f1_4
set_option maxHeartbeats 4000000 in
theorem c_J5_length (l : Launch) (D : va_G) (cs : qC) {N00 : Nat} {M0 : qM} {N b v : Nat} (hd : qDom N00 M0 N) {ct : Int32} (hMb : M0 b = some (.inr (1, [.ref v, .int 0, .int 0, .int ct]))) :
    qMetF l (jW N00 cs) D cs yJ5_length_8abf5 (qws yJ5_length_8abf5 cJ5_length_8abf5 1 (some .int)) (qRmc 1 90 0 0) M0 N [.ref b] (qRet M0 N (.int ct)) 0 0 := by
  refine f_head (by decide +kernel) ?_ (Nat.le_of_ble_eq_true rfl)
  intro p e s m below meth c ls hx hb hret hlk hml hown hnm hg hK hN hP hI hl
  have hl : lv_has ls 1 [(0, .ref b)] := hl
  refine lv_aload_n hx hb dJ5_length_8abf5_0 rfl (lv_at hl 0 rfl) ?_
  refine q_get hx hb hg in_J4 hown hK hI hMb rfl 3 (by decide) (hg _ wf_J5_79) (fun _ h9 => h9) rfl dJ5_length_8abf5_1 ?_
  exact q_iret hx hb hret hlk hN hI ⟨rfl, rfl, rfl⟩ dJ5_length_8abf5_4
set_option maxHeartbeats 4000000 in
theorem c_J4_length (l : Launch) (D : va_G) (cs : qC) {N00 : Nat} {M0 : qM} {N b v : Nat} (hd : qDom N00 M0 N) {ct : Int32} (hMb : M0 b = some (.inr (1, [.ref v, .int 0, .int 0, .int ct]))) :
    qMetF l (jW N00 cs) D cs yJ4_length_8abf5 (qws yJ4_length_8abf5 cJ4_length_8abf5 1 (some .int)) (qRmc 2 180 0 0) M0 N [.ref b] (qRet M0 N (.int ct)) 0 0 := by
  refine f_head (by decide +kernel) ?_ (Nat.le_of_ble_eq_true rfl)
  intro p e s m below meth c ls hx hb hret hlk hml hown hnm hg hK hN hP hI hl
  have hl : lv_has ls 1 [(0, .ref b)] := hl
  refine lv_aload_n hx hb dJ4_length_8abf5_0 rfl (lv_at hl 0 rfl) ?_
  refine q_goR (f_runSU (As := []) (rest := []) hx hb hml hown hg (c_J5_length l D cs hd hMb) v_J5_length_8abf5 wl_J4_343 rfl rfl ⟨Nat.le_of_ble_eq_true rfl, Nat.le_of_ble_eq_true rfl⟩ sm_J5_length_8abf5 wx_sup (by decide +kernel) hI hK jW.sw (hI.jw hN hd hP) hMb hl.1 rfl rfl (Nat.le_of_ble_eq_true rfl) dJ4_length_8abf5_1 ⟨Nat.le_of_ble_eq_true rfl, Nat.le_of_ble_eq_true rfl⟩) hI (fun H locs hI => ?_)
  exact q_iret hx hb hret hlk hN hI ⟨rfl, rfl, rfl⟩ dJ4_length_8abf5_4
set_option maxHeartbeats 4000000 in
theorem c_J7_checkLength (l : Launch) (D : va_G) (cs : qC) {N00 : Nat} {M0 : qM} {N m0 : Nat} (hd : qDom N00 M0 N) (h31 : m0 < 2 ^ 31) :
    qMetF l (jW N00 cs) D cs yJ7_checkLength_df160 (qws yJ7_checkLength_df160 cJ7_checkLength_df160 2 none) (qRmc 1 90 0 0) M0 N [.int 0, .int (nI m0)] (qRetN M0 N) 0 0 := by
  refine f_head (by decide +kernel) ?_ (Nat.le_of_ble_eq_true rfl)
  intro p e s m below meth c ls hx hb hret hlk hml hown hnm hg hK hN hP hI hl
  have hl : lv_has ls 2 [(0, .int 0), (1, .int (nI m0))] := hl
  refine lv_iload_n hx hb dJ7_checkLength_df160_0 rfl (lv_at hl 1 rfl) ?_
  refine lv_iload_n hx hb dJ7_checkLength_df160_1 rfl (lv_at hl 0 rfl) ?_
  refine lv_icmp_ge (tgt := 37) hx hb dJ7_checkLength_df160_2 (by decide) (fun h9 => ?_) (fun h9 => absurd (nI_pos' (n := m0) h31) h9)
  exact q_vret (st := []) hx hb hret hlk hN hI ⟨rfl, rfl, rfl⟩ dJ7_checkLength_df160_37
set_option maxHeartbeats 4000000 in
theorem c_J7_copyOfRangeByte (l : Launch) (D : va_G) (cs : qC) {N00 : Nat} {M0 : qM} {N v n m0 : Nat} (hd : qDom N00 M0 N) {f : Nat → Int32} (hm : m0 ≤ n) (hn : n ≤ 34) (hMv : M0 v = some (qbyt cs n f)) (hfit : sb_Fit f) :
    qMetF l (jW N00 cs) D cs yJ7_copyOfRangeByte_39247 (qws yJ7_copyOfRangeByte_39247 cJ7_copyOfRangeByte_39247 5 (some (.array .byte))) (qRmc 2 180 1 34) M0 N [.ref v, .int 0, .int (nI m0)] (fun r M' N' => r = some (.ref N) ∧ (∃ f', M' = qUp M0 N (qbyt cs m0 f') ∧ (∀ j, j < m0 → f' j = f j)) ∧ N' = N + 1) 1 34 := by
  refine f_head (by decide +kernel) ?_ (Nat.le_of_ble_eq_true rfl)
  intro p e s m below meth c ls hx hb hret hlk hml hown hnm hg hK hN hP hI hl
  have hl : lv_has ls 5 [(0, .ref v), (1, .int 0), (2, .int (nI m0))] := hl
  have hvN := hI.lt hMv
  refine lv_iload_n hx hb dJ7_copyOfRangeByte_39247_0 rfl (lv_at hl 1 rfl) ?_
  refine lv_iload_n hx hb dJ7_copyOfRangeByte_39247_1 rfl (lv_at hl 2 rfl) ?_
  refine q_goNN (f_runS (As := [.int 0, .int (nI m0)]) (rest := []) hx hb hml hown hg (c_J7_checkLength l D cs hd (m0 := m0) (by omega)) v_J7_checkLength_df160 wl_J7_343 rfl rfl ⟨Nat.le_of_ble_eq_true rfl, Nat.le_of_ble_eq_true rfl⟩ hI hK jW.sw (hI.jw hN hd hP) hl.1 rfl rfl (Nat.le_of_ble_eq_true rfl) dJ7_copyOfRangeByte_39247_2 ⟨Nat.le_of_ble_eq_true rfl, Nat.le_of_ble_eq_true rfl⟩) hI (fun H locs hI => ?_)
  refine lv_iload_n hx hb dJ7_copyOfRangeByte_39247_5 rfl (lv_at hl 2 rfl) ?_
  refine lv_iload_n hx hb dJ7_copyOfRangeByte_39247_6 rfl (lv_at hl 1 rfl) ?_
  refine lv_isub hx hb dJ7_copyOfRangeByte_39247_7 ?_
  rw [Int32.sub_zero]
  refine lv_istore_n (lv' := [(3, .int (nI m0)), (0, .ref v), (1, .int 0), (2, .int (nI m0))]) hx hb dJ7_copyOfRangeByte_39247_8 rfl hl (by decide) rfl (fun ls hl => ?_)
  refine lv_iload_n hx hb dJ7_copyOfRangeByte_39247_9 rfl (lv_at hl 0 rfl) ?_
  refine q_newB hx hb hg hK hI m0 (nI_pos (by omega)) (nI_clamp (by omega)) (by rw [show componentBytes .byte = 1 from rfl]; omega) (Nat.le_of_ble_eq_true rfl) (by show 0 + 0 + m0 ≤ 34; omega) dJ7_copyOfRangeByte_39247_10 (fun H hI => ?_)
  have h1 : qUp M0 N (qbyt cs m0 (fun _ => 0)) v = some (qbyt cs n f) := (qUp_ne (by omega)).trans hMv
  refine lv_astore (lv' := [(4, .ref N), (3, .int (nI m0)), (0, .ref v), (1, .int 0), (2, .int (nI m0))]) hx hb dJ7_copyOfRangeByte_39247_12 hl (by decide) rfl (fun ls hl => ?_)
  refine lv_aload_n hx hb dJ7_copyOfRangeByte_39247_14 rfl (lv_at hl 2 rfl) ?_
  refine lv_iload_n hx hb dJ7_copyOfRangeByte_39247_15 rfl (lv_at hl 3 rfl) ?_
  refine lv_aload hx hb dJ7_copyOfRangeByte_39247_16 (lv_at hl 0 rfl) ?_
  refine lv_iconst (v := 0) hx hb dJ7_copyOfRangeByte_39247_18 (by decide) ?_
  refine lv_aload_n hx hb dJ7_copyOfRangeByte_39247_19 rfl (lv_at hl 2 rfl) ?_
  refine q_alen hx hb hK hI 4 rfl h1 (v := nI n) rfl dJ7_copyOfRangeByte_39247_20 ?_
  refine lv_iload_n hx hb dJ7_copyOfRangeByte_39247_21 rfl (lv_at hl 3 rfl) ?_
  refine lv_isub hx hb dJ7_copyOfRangeByte_39247_22 ?_
  refine lv_iload_n hx hb dJ7_copyOfRangeByte_39247_23 rfl (lv_at hl 1 rfl) ?_
  refine va_mmin hx hb (hml.trans hl.1.symm) hown (hg _ wx_min7) (hg _ wm_min.1) (hg _ wm_ini) (hg _ wm_min.2) (Nat.le_of_ble_eq_true rfl) (Nat.le_of_ble_eq_true rfl) (Nat.le_of_ble_eq_true rfl) (by show 0 + 0 + m0 ≤ 34; omega) dJ7_copyOfRangeByte_39247_24 ?_
  rw [nI_mn hm (by omega)]
  refine q_copyT hx hb (hml.trans hl.1.symm) hown (hg _ wx_ac7) (hg _ wx_acN) (hg _ wx_acS) (hg _ wx_iniSys) hK hI (hI.tB hK h1) (qUp_at _ _ _) (by decide) (by decide) (nI_pos (by omega)) (by rw [nI_clamp (by omega)]; show 0 + m0 ≤ n; omega) (by rw [nI_clamp (by omega)]; show 0 + m0 ≤ m0; omega) (fun i _ => hfit _) (Nat.le_of_ble_eq_true rfl) (Nat.le_of_ble_eq_true rfl) dJ7_copyOfRangeByte_39247_27 (fun H locs hI => ?_)
  rw [nI_clamp (by omega)] at hI
  refine lv_aload hx hb dJ7_copyOfRangeByte_39247_30 (lv_at hl 0 rfl) ?_
  refine W.widen (k := 1) (n := 34) (Nat.le_of_ble_eq_true rfl) (by show 0 + 0 + m0 ≤ 34; omega) ?_
  exact q_nret hx hb hret (Or.inr ⟨_, rfl⟩) (Or.inr ⟨_, rfl⟩) hlk hN hI ⟨rfl, ⟨_, qUp_tw _ _ _ _, fun j hj => cpy_in0 hj⟩, rfl⟩ dJ7_copyOfRangeByte_39247_32
set_option maxHeartbeats 4000000 in
theorem c_J7_copyOfRange (l : Launch) (D : va_G) (cs : qC) {N00 : Nat} {M0 : qM} {N v n m0 : Nat} (hd : qDom N00 M0 N) {f : Nat → Int32} (hm : m0 ≤ n) (hn : n ≤ 34) (hMv : M0 v = some (qbyt cs n f)) (hfit : sb_Fit f) :
    qMetF l (jW N00 cs) D cs yJ7_copyOfRange_39247 (qws yJ7_copyOfRange_39247 cJ7_copyOfRange_39247 3 (some (.array .byte))) (qRmc 3 270 1 34) M0 N [.ref v, .int 0, .int (nI m0)] (fun r M' N' => r = some (.ref N) ∧ (∃ f', M' = qUp M0 N (qbyt cs m0 f') ∧ (∀ j, j < m0 → f' j = f j)) ∧ N' = N + 1) 1 34 := by
  refine f_head (by decide +kernel) ?_ (Nat.le_of_ble_eq_true rfl)
  intro p e s m below meth c ls hx hb hret hlk hml hown hnm hg hK hN hP hI hl
  have hl : lv_has ls 3 [(0, .ref v), (1, .int 0), (2, .int (nI m0))] := hl
  refine lv_iload_n hx hb dJ7_copyOfRange_39247_0 rfl (lv_at hl 1 rfl) ?_
  refine lv_if_ne (tgt := 10) hx hb dJ7_copyOfRange_39247_1 (by decide) (fun h9 => absurd rfl h9) (fun h9 => ?_)
  refine lv_iload_n hx hb dJ7_copyOfRange_39247_4 rfl (lv_at hl 2 rfl) ?_
  refine lv_aload_n hx hb dJ7_copyOfRange_39247_5 rfl (lv_at hl 0 rfl) ?_
  refine q_alen hx hb hK hI 4 rfl hMv (v := nI n) rfl dJ7_copyOfRange_39247_6 ?_
  by_cases hmn : m0 = n
  · refine lv_icmp_eq (tgt := 17) hx hb dJ7_copyOfRange_39247_7 (by decide) (fun h9 => ?_) (fun h9 => absurd (by rw [hmn]) h9)
    refine lv_aload_n hx hb dJ7_copyOfRange_39247_17 rfl (lv_at hl 0 rfl) ?_
    refine q_cloneB hx hb (hml.trans hl.1.symm) hown (hg _ wx_cl7) (hg _ wx_clS) (hg _ wx_clN) (hg _ wx_clI) (hg _ wx_clSel) hP.2.2.2.1 hK hI hMv (fun i _ => hfit i) (Nat.le_of_ble_eq_true rfl) (Nat.le_of_ble_eq_true rfl) (Nat.le_of_ble_eq_true rfl) (by show 0 + n ≤ 34; omega) dJ7_copyOfRange_39247_18 (fun H hI => ?_)
    refine q_castB hx hb hown (hg _ wx_clC) hK hI (qUp_at _ _ _) dJ7_copyOfRange_39247_21 ?_
    refine W.widen (k := 1) (n := 34) (Nat.le_of_ble_eq_true rfl) (by show 0 + n ≤ 34; omega) ?_
    exact q_nret hx hb hret (Or.inr ⟨_, rfl⟩) (Or.inr ⟨_, rfl⟩) hlk hN hI ⟨rfl, ⟨f, by rw [hmn], fun j hj => rfl⟩, rfl⟩ dJ7_copyOfRange_39247_24
  · refine lv_icmp_eq (tgt := 17) hx hb dJ7_copyOfRange_39247_7 (by decide) (fun h9 => absurd ((nI_eq (by omega) (by omega)).mp h9) hmn) (fun h9 => ?_)
    refine lv_aload_n hx hb dJ7_copyOfRange_39247_10 rfl (lv_at hl 0 rfl) ?_
    refine lv_iload_n hx hb dJ7_copyOfRange_39247_11 rfl (lv_at hl 1 rfl) ?_
    refine lv_iload_n hx hb dJ7_copyOfRange_39247_12 rfl (lv_at hl 2 rfl) ?_
    refine q_go (f_runS (As := [.ref v, .int 0, .int (nI m0)]) (rest := []) hx hb hml hown hg (c_J7_copyOfRangeByte l D cs hd hm hn hMv hfit) v_J7_copyOfRangeByte_39247 wl_J7_339 rfl rfl ⟨Nat.le_of_ble_eq_true rfl, Nat.le_of_ble_eq_true rfl⟩ hI hK jW.sw (hI.jw hN hd hP) hl.1 rfl rfl (Nat.le_of_ble_eq_true rfl) dJ7_copyOfRange_39247_13 ⟨Nat.le_of_ble_eq_true rfl, Nat.le_of_ble_eq_true rfl⟩) hI (fun r M N' H locs hp hI => ?_)
    obtain ⟨rfl, hp1, hp2⟩ := hp
    exact q_nret hx hb hret (Or.inr ⟨_, rfl⟩) (Or.inr ⟨_, rfl⟩) hlk hN hI ⟨rfl, hp1, hp2⟩ dJ7_copyOfRange_39247_16
set_option maxHeartbeats 4000000 in
theorem c_J0_init2 (l : Launch) (D : va_G) (cs : qC) {N00 : Nat} {M0 : qM} {N K a b : Nat} (hd : qDom N00 M0 N) {L : List Int32} (hKa : K ≤ a) (hMa : M0 a = some (.inr (0, [.null, .int 0, .int 0, .int 0]))) (hB : qB cs K 0 L.length M0 N b L) :
    qMetF l (jW N00 cs) D cs yJ0_init_db425 (qws yJ0_init_db425 cJ0_init_db425 5 none) (qRmc 4 360 1 34) M0 N [.ref a, .ref b, .null] (fun r M' N' => r = none ∧ (∃ (t : Nat) (f' : Nat → Int32), K ≤ t ∧ M' a = some (.inr (0, [.ref t, .int 0, .int 0, .int 0])) ∧ M' t = some (qbyt cs L.length f') ∧ (∀ j, j < L.length → f' j = L.getD j 0)) ∧ qFr (qK0 K) M0 M' ∧ N ≤ N') 1 34 := by
  refine f_head (by decide +kernel) ?_ (Nat.le_of_ble_eq_true rfl)
  intro p e s m below meth c ls hx hb hret hlk hml hown hnm hg hK hN hP hI hl
  have hl : lv_has ls 5 [(0, .ref a), (1, .ref b), (2, .null)] := hl
  obtain ⟨v, n, f, hn, hLn, hwn, hKb, hKv, hKN, hMb, hMv, hf, hfit⟩ := hB
  have hab : b ≠ a := fun h => by rw [h, hMa] at hMb; cases hMb
  have hav : v ≠ a := fun h => by rw [h, hMa] at hMv; cases hMv
  have haN := hI.lt hMa
  have hvN := hI.lt hMv
  refine lv_aload_n hx hb dJ0_init_db425_0 rfl (lv_at hl 0 rfl) ?_
  refine q_objInit hx hb (hml.trans hl.1.symm) hg hown wx_o0 wo_inst wo_code dJ0_init_db425_1 (Nat.le_of_ble_eq_true rfl) (Nat.le_of_ble_eq_true rfl) ?_
  refine lv_aload_n hx hb dJ0_init_db425_4 rfl (lv_at hl 1 rfl) ?_
  refine q_goR (f_runU (As := []) (rest := []) hx hb hml hown hg (c_J5_getValue l D cs hd hMb) v_J5_getValue_6d5f1 wl_J0_552 rfl rfl ⟨Nat.le_of_ble_eq_true rfl, Nat.le_of_ble_eq_true rfl⟩ ⟨by decide +kernel, by decide +kernel⟩ rfl sm_J5_getValue_6d5f1 (va_Decl.of (hg _ v_J5_getValue_6d5f1.2.1) (hg _ v_J5_getValue_6d5f1.1)) (hg _ wx_selV) hI hK jW.sw (hI.jw hN hd hP) hMb hl.1 rfl rfl (Nat.le_of_ble_eq_true rfl) dJ0_init_db425_5 ⟨Nat.le_of_ble_eq_true rfl, Nat.le_of_ble_eq_true rfl⟩) hI (fun H locs hI => ?_)
  refine lv_astore_n (lv' := [(3, .ref v), (0, .ref a), (1, .ref b), (2, .null)]) hx hb dJ0_init_db425_8 rfl hl (by decide) rfl (fun ls hl => ?_)
  refine lv_aload_n hx hb dJ0_init_db425_9 rfl (lv_at hl 2 rfl) ?_
  refine q_goR (f_runU (As := []) (rest := []) hx hb hml hown hg (c_J4_length l D cs hd hMb) v_J4_length_8abf5 wl_J0_549 rfl rfl ⟨Nat.le_of_ble_eq_true rfl, Nat.le_of_ble_eq_true rfl⟩ ⟨by decide +kernel, by decide +kernel⟩ rfl sm_J5_length_8abf5 (va_Decl.of (hg _ v_J5_length_8abf5.2.1) (hg _ v_J5_length_8abf5.1)) (hg _ wx_selN) hI hK jW.sw (hI.jw hN hd hP) hMb hl.1 rfl rfl (Nat.le_of_ble_eq_true rfl) dJ0_init_db425_10 ⟨Nat.le_of_ble_eq_true rfl, Nat.le_of_ble_eq_true rfl⟩) hI (fun H locs hI => ?_)
  refine lv_istore (lv' := [(4, .int (nI L.length)), (3, .ref v), (0, .ref a), (1, .ref b), (2, .null)]) hx hb dJ0_init_db425_13 hl (by decide) rfl (fun ls hl => ?_)
  refine lv_aload_n hx hb dJ0_init_db425_15 rfl (lv_at hl 3 rfl) ?_
  refine q_goR (f_runU (As := []) (rest := []) hx hb hml hown hg (c_J5_isLatin1 l D cs hd hMb) v_J5_isLatin1_aae02 wl_J0_1047 rfl rfl ⟨Nat.le_of_ble_eq_true rfl, Nat.le_of_ble_eq_true rfl⟩ ⟨by decide +kernel, by decide +kernel⟩ rfl sm_J5_isLatin1_aae02 (va_Decl.of (hg _ v_J5_isLatin1_aae02.2.1) (hg _ v_J5_isLatin1_aae02.1)) (hg _ wx_selL) hI hK jW.sw (hI.jw hN hd hP) hMb hl.1 rfl rfl (Nat.le_of_ble_eq_true rfl) dJ0_init_db425_16 ⟨Nat.le_of_ble_eq_true rfl, Nat.le_of_ble_eq_true rfl⟩) hI (fun H locs hI => ?_)
  refine lv_if_eq (tgt := 41) hx hb dJ0_init_db425_19 (by decide) (fun h9 => absurd h9 (by decide)) (fun h9 => ?_)
  refine lv_aload_n hx hb dJ0_init_db425_22 rfl (lv_at hl 2 rfl) ?_
  refine lv_iconst (v := 0) hx hb dJ0_init_db425_23 (by decide) ?_
  refine q_putF (v := .int 0) hx hb hg in_J0 tyJ0_ok nmJ0 hown hK hI hMa rfl 1 (by decide) (hg _ wf_J0_15) (fun _ h9 => h9) rfl hnm rfl rfl rfl (Nat.le_of_ble_eq_true rfl) dJ0_init_db425_24 (fun H locs hI => ?_)
  refine lv_aload_n hx hb dJ0_init_db425_27 rfl (lv_at hl 2 rfl) ?_
  refine lv_aload_n hx hb dJ0_init_db425_28 rfl (lv_at hl 1 rfl) ?_
  refine lv_iconst (v := 0) hx hb dJ0_init_db425_29 (by decide) ?_
  refine lv_iload hx hb dJ0_init_db425_30 (lv_at hl 0 rfl) ?_
  refine q_go (f_runS (As := [.ref v, .int 0, .int (nI L.length)]) (rest := [.ref a]) hx hb hml hown hg (c_J7_copyOfRange l D cs (hI.dom hN hd) hLn (by omega) ((qUp_ne hav).trans hMv) hfit) v_J7_copyOfRange_39247 wl_J0_54 rfl rfl ⟨Nat.le_of_ble_eq_true rfl, Nat.le_of_ble_eq_true rfl⟩ hI hK jW.sw (hI.jw hN hd hP) hl.1 rfl rfl (Nat.le_of_ble_eq_true rfl) dJ0_init_db425_32 ⟨Nat.le_of_ble_eq_true rfl, Nat.le_of_ble_eq_true rfl⟩) hI (fun r M N' H locs hp hI => ?_)
  obtain ⟨rfl, ⟨f', rfl, hf'⟩, rfl⟩ := hp
  refine q_putF (v := .ref N) hx hb hg in_J0 tyJ0_ok nmJ0 hown hK hI ((qUp_ne (by omega)).trans (qUp_at _ _ _)) rfl 0 (by decide) (hg _ wf_J0_9) (fun _ h9 => h9) rfl hnm rfl rfl rfl (Nat.le_of_ble_eq_true rfl) dJ0_init_db425_35 (fun H locs hI => ?_)
  refine lv_goto (tgt := 97) hx hb dJ0_init_db425_38 (by decide) ?_
  exact q_vret (st := []) hx hb hret hlk hN hI ⟨rfl, ⟨N, f', hKN, qUp_at _ _ _, (qUp_ne (by omega)).trans (qUp_at _ _ _), fun j hj => (hf' j hj).trans (hf j hj)⟩, fun q hq => (qUp_ne (by omega)).trans ((qUp_ne (by omega)).trans (qUp_ne (by omega))), by omega⟩ dJ0_init_db425_97
set_option maxHeartbeats 4000000 in
theorem c_J0_init1 (l : Launch) (D : va_G) (cs : qC) {N00 : Nat} {M0 : qM} {N K a b : Nat} (hd : qDom N00 M0 N) {L : List Int32} (hKa : K ≤ a) (hMa : M0 a = some (.inr (0, [.null, .int 0, .int 0, .int 0]))) (hB : qB cs K 0 L.length M0 N b L) :
    qMetF l (jW N00 cs) D cs yJ0_init_81219 (qws yJ0_init_81219 cJ0_init_81219 2 none) (qRmc 5 450 1 34) M0 N [.ref a, .ref b] (fun r M' N' => r = none ∧ (∃ (t : Nat) (f' : Nat → Int32), K ≤ t ∧ M' a = some (.inr (0, [.ref t, .int 0, .int 0, .int 0])) ∧ M' t = some (qbyt cs L.length f') ∧ (∀ j, j < L.length → f' j = L.getD j 0)) ∧ qFr (qK0 K) M0 M' ∧ N ≤ N') 1 34 := by
  refine f_head (by decide +kernel) ?_ (Nat.le_of_ble_eq_true rfl)
  intro p e s m below meth c ls hx hb hret hlk hml hown hnm hg hK hN hP hI hl
  have hl : lv_has ls 2 [(0, .ref a), (1, .ref b)] := hl
  refine lv_aload_n hx hb dJ0_init_81219_0 rfl (lv_at hl 0 rfl) ?_
  refine lv_aload_n hx hb dJ0_init_81219_1 rfl (lv_at hl 1 rfl) ?_
  refine lv_null hx hb dJ0_init_81219_2 ?_
  refine q_go (f_runI (As := [.ref b, .null]) (rest := []) hx hb hml hown hg (c_J0_init2 l D cs hd hKa hMa hB) v_J0_init_db425 wl_J0_489 rfl rfl ⟨Nat.le_of_ble_eq_true rfl, Nat.le_of_ble_eq_true rfl⟩ hI hK jW.sw (hI.jw hN hd hP) hl.1 rfl rfl (Nat.le_of_ble_eq_true rfl) dJ0_init_81219_3 ⟨Nat.le_of_ble_eq_true rfl, Nat.le_of_ble_eq_true rfl⟩) hI (fun r M N' H locs hp hI => ?_)
  obtain ⟨rfl, hp⟩ := hp
  exact q_vret (st := []) hx hb hret hlk hN hI ⟨rfl, hp⟩ dJ0_init_81219_6
set_option maxHeartbeats 4000000 in
theorem c_J4_toString (l : Launch) (D : va_G) (cs : qC) {N00 : Nat} {M0 : qM} {N K b : Nat} (hd : qDom N00 M0 N) {L : List Int32} (hB : qB cs K 0 L.length M0 N b L) :
    qMetF l (jW N00 cs) D cs yJ4_toString_0e30d (qws yJ4_toString_0e30d cJ4_toString_0e30d 1 (some (.object "java/lang/String"))) (qRmc 6 540 2 38) M0 N [.ref b] (fun r M' N' => ∃ a : Nat, r = some (.ref a) ∧ K ≤ a ∧ (∃ (t : Nat) (f' : Nat → Int32), K ≤ t ∧ M' a = some (.inr (0, [.ref t, .int 0, .int 0, .int 0])) ∧ M' t = some (qbyt cs L.length f') ∧ (∀ j, j < L.length → f' j = L.getD j 0)) ∧ qFr (qK0 K) M0 M' ∧ N ≤ N') 2 38 := by
  refine f_head (by decide +kernel) ?_ (Nat.le_of_ble_eq_true rfl)
  intro p e s m below meth c ls hx hb hret hlk hml hown hnm hg hK hN hP hI hl
  have hl : lv_has ls 1 [(0, .ref b)] := hl
  obtain ⟨v, n, f, hn, hLn, hwn, hKb, hKv, hKN, hMb, hMv, hf, hfit⟩ := hB
  have hbN := hI.lt hMb
  have hvN := hI.lt hMv
  refine q_new hx hb 0 hg in_J0 tyJ0_ok hown wx_cS wx_instS wx_iniS hK hI rfl [.null, .int 0, .int 0, .int 0] (fun j hj => by match j, hj with | 0, _ => rfl | 1, _ => rfl | 2, _ => rfl | 3, _ => rfl) (Nat.le_of_ble_eq_true rfl) (Nat.le_of_ble_eq_true rfl) dJ4_toString_0e30d_0 (fun H hI => ?_)
  refine lv_dup hx hb dJ4_toString_0e30d_3 rfl ?_
  refine lv_aload_n hx hb dJ4_toString_0e30d_4 rfl (lv_at hl 0 rfl) ?_
  refine q_go (f_runI (As := [.ref b]) (rest := [.ref N]) hx hb hml hown hg (c_J0_init1 l D cs (hI.dom hN hd) (L := L) hKN (qUp_at _ _ _) ⟨v, n, f, hn, hLn, hwn, hKb, hKv, by omega, (qUp_ne (by omega)).trans hMb, (qUp_ne (by omega)).trans hMv, hf, hfit⟩) v_J0_init_81219 wl_J4_137 rfl rfl ⟨Nat.le_of_ble_eq_true rfl, Nat.le_of_ble_eq_true rfl⟩ hI hK jW.sw (hI.jw hN hd hP) hl.1 rfl rfl (Nat.le_of_ble_eq_true rfl) dJ4_toString_0e30d_5 ⟨Nat.le_of_ble_eq_true rfl, Nat.le_of_ble_eq_true rfl⟩) hI (fun r M N' H locs hp hI => ?_)
  obtain ⟨rfl, hp, hF, hle⟩ := hp
  exact q_nret hx hb hret (Or.inl ⟨_, rfl⟩) (Or.inr ⟨_, rfl⟩) hlk hN hI ⟨N, rfl, hKN, hp, qFr.tr (F := qK0 K) (G := qK0 K) (fun q hq => qUp_ne (by omega)) hF (fun q hq => hq), by omega⟩ dJ4_toString_0e30d_8
