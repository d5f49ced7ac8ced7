/-! COMMANDS: the words' row, a command taken -/
theorem qWrow_set (cs : qC) {L : List Int32} {c k : Nat} (hL : L.length = 60) (hc : c < 60) (hk : k < 8) : (.inl (cs 2, 60, .inr (.inr (.inr (.inr (va_up (fun j => qWd cs (L.getD j (-1))) c (some (cs (16 + k)))))))) : va_E) = qWrow cs (L.set c (nI k)) := by
  unfold qWrow
  congr 7
  funext j
  by_cases hj : j = c
  · subst hj
    have e1 : (L.set j (nI k)).getD j (-1) = nI k := by simp [List.getD, hL, hc]
    rw [e1, qWd_nI hk]
    simp [va_up]
  · have e1 : (L.set c (nI k)).getD j (-1) = L.getD j (-1) := by
      simp only [List.getD]
      rw [List.getElem?_set_ne (Ne.symm hj)]
    rw [e1]
    simp [va_up, hj]
theorem qLI.w {cs : qC} {M : qM} {a c k : Nat} {v : qIV} (h : qLI cs M a v) (hc : c < 60) (hk : k < 8) : qLI cs (qUp M (a + 2) (.inl (cs 2, 60, .inr (.inr (.inr (.inr (va_up (fun j => qWd cs (v.2.1.getD j (-1))) c (some (cs (16 + k)))))))))) a (v.1, v.2.1.set c (nI k), v.2.2) := by
  obtain ⟨h1, h2, h3, h4, h5, h6, h7⟩ := h
  refine ⟨(qUp_ne (by omega)).trans h1, h2.same (qUp_ne (by omega)), h3.same (qUp_ne (by omega)), h4.same (qUp_ne (by omega)), ?_, by rw [List.length_set]; exact h6, fun j => ?_⟩
  · rw [qUp_at, qWrow_set cs h6 hc hk]
  · show ((v.2.1.set c (nI k)).getD j (-1)).toNatClampNeg < 8
    by_cases hj : j = c
    · subst hj
      have e1 : (v.2.1.set j (nI k)).getD j (-1) = nI k := by simp [List.getD, h6, hc]
      rw [e1, nI_clamp (by omega)]
      exact hk
    · have e1 : (v.2.1.set c (nI k)).getD j (-1) = v.2.1.getD j (-1) := by
        simp only [List.getD]
        rw [List.getElem?_set_ne (Ne.symm hj)]
      rw [e1]
      exact h7 j
def s_X3_addCommand (v : qIV) (k : Nat) (p2 p3 : Int32) : qIV :=
  if v.2.2.2.2.2.1 < 0 then v else if 60 ≤ v.2.2.2.2.2.1 then v else (v.1, v.2.1.set v.2.2.2.2.2.1.toNatClampNeg (nI k), rowPut v.2.2.1 v.2.2.2.2.2.1 p2, rowPut v.2.2.2.1 v.2.2.2.2.2.1 p3, v.2.2.2.2.1, v.2.2.2.2.2.1 + 1, v.2.2.2.2.2.2)
set_option maxHeartbeats 8000000 in
theorem c_X3_addCommand (l : Launch) (D : va_G) (cs : qC) {N00 : Nat} {M0 : qM} {N a k : Nat} {v : qIV} (hd : qDom N00 M0 N) (hL0 : qLI cs M0 a v) (hk : k < 8) (p2 p3 : Int32) :
    qMetZ l D cs N00 yX3_addCommand (qws yX3_addCommand cX3_addCommand 4 none) (qRm 1 40) M0 N [.ref a, .ref (cs (16 + k)), .int p2, .int p3] (qMod N none (fun M' => qLI cs M' a (s_X3_addCommand v k p2 p3) ∧ qFr (qIn a 5) M0 M')) 0 0 := by
  obtain ⟨R, hR⟩ : ∃ R, s_X3_addCommand v k p2 p3 = R := ⟨_, rfl⟩
  rw [hR]
  rw [s_X3_addCommand] at hR
  refine z_head (by decide +kernel) ?_ (Nat.le_of_ble_eq_true rfl)
  intro p e s m below meth c ls hx hb hret hlk hml hown hnm hg hK hN hZ hI hl
  have hl : lv_has ls 4 [(0, .ref a), (1, .ref (cs (16 + k))), (2, .int p2), (3, .int p3)] := hl
  have hM := hL0.2.2.2.2.1
  refine lv_aload_n hx hb dX3_addCommand_0 rfl (lv_at hl 0 rfl) ?_
  refine q_get hx hb hg in_X3 hown hK hI hL0.1 rfl 5 (by decide) (hg _ wf_X3_35) (fun _ h9 => h9) rfl dX3_addCommand_1 ?_
  refine lv_if_lt (tgt := 63) hx hb dX3_addCommand_4 (by decide) (fun c1 => ?_) (fun c1 => ?_)
  · rw [if_pos c1] at hR
    exact q_vret (st := []) hx hb hret hlk hN hI (by subst hR; exact ⟨rfl, ⟨hL0, qFr.rf⟩, rfl⟩) dX3_addCommand_63
  · rw [if_neg c1] at hR
    refine lv_aload_n hx hb dX3_addCommand_7 rfl (lv_at hl 0 rfl) ?_
    refine q_get hx hb hg in_X3 hown hK hI hL0.1 rfl 5 (by decide) (hg _ wf_X3_35) (fun _ h9 => h9) rfl dX3_addCommand_8 ?_
    refine lv_aload_n hx hb dX3_addCommand_11 rfl (lv_at hl 0 rfl) ?_
    refine q_get hx hb hg in_X3 hown hK hI hL0.1 rfl 1 (by decide) (hg _ wf_X3_17) (fun _ h9 => h9) rfl dX3_addCommand_12 ?_
    refine q_alen hx hb hK hI 2 rfl hM (v := 60) rfl dX3_addCommand_15 ?_
    refine lv_icmp_ge (tgt := 63) hx hb dX3_addCommand_16 (by decide) (fun c2 => ?_) (fun c2 => ?_)
    · rw [if_pos c2] at hR
      exact q_vret (st := []) hx hb hret hlk hN hI (by subst hR; exact ⟨rfl, ⟨hL0, qFr.rf⟩, rfl⟩) dX3_addCommand_63
    · rw [if_neg c2] at hR
      have hc60 := q_within (L := List.replicate 60 0) (by decide) (q_nlt c1) (q_nle c2)
      rw [List.length_replicate] at hc60
      refine lv_aload_n hx hb dX3_addCommand_19 rfl (lv_at hl 0 rfl) ?_
      refine q_get hx hb hg in_X3 hown hK hI hL0.1 rfl 1 (by decide) (hg _ wf_X3_17) (fun _ h9 => h9) rfl dX3_addCommand_20 ?_
      refine lv_aload_n hx hb dX3_addCommand_23 rfl (lv_at hl 0 rfl) ?_
      refine q_get hx hb hg in_X3 hown hK hI hL0.1 rfl 5 (by decide) (hg _ wf_X3_35) (fun _ h9 => h9) rfl dX3_addCommand_24 ?_
      refine lv_aload_n hx hb dX3_addCommand_27 rfl (lv_at hl 1 rfl) ?_
      refine q_aastZ hx hb hK hI 2 rfl hM (by obtain ⟨cell, h1, h2, h3, -⟩ := (hZ.2.1 k hk).1.kept (hI.zS hN hd).2.1; exact ⟨cell, h1, h2, h3⟩) (q_vpin (L := List.replicate 60 0) (by decide) (q_nlt c1) (q_nle c2)) dX3_addCommand_28 (fun H locs hI => ?_)
      obtain ⟨M, hL0, hS, hI⟩ : ∃ Mx : qM, qLI cs Mx a (v.1, v.2.1.set v.2.2.2.2.2.1.toNatClampNeg (nI k), v.2.2) ∧ qFr (qIn a 5) M0 Mx ∧ qI D M0 s.heap Mx N H locs := ⟨_, hL0.w hc60 hk, qFr.rf.tr (qFr.up (k := 1) (by decide)) (fun q hq => by omega), hI⟩
      refine lv_aload_n hx hb dX3_addCommand_29 rfl (lv_at hl 0 rfl) ?_
      refine q_get hx hb hg in_X3 hown hK hI hL0.1 rfl 2 (by decide) (hg _ wf_X3_21) (fun _ h9 => h9) rfl dX3_addCommand_30 ?_
      refine lv_aload_n hx hb dX3_addCommand_33 rfl (lv_at hl 0 rfl) ?_
      refine q_get hx hb hg in_X3 hown hK hI hL0.1 rfl 5 (by decide) (hg _ wf_X3_35) (fun _ h9 => h9) rfl dX3_addCommand_34 ?_
      refine lv_iload_n hx hb dX3_addCommand_37 rfl (lv_at hl 2 rfl) ?_
      refine q_goN (q_runSN (As := [.ref (a + 3), .int v.2.2.2.2.2.1, .int p2]) (rest := []) hx hb hml hown hg (c_X10_put l D cs hL0.2.2.1 v.2.2.2.2.2.1 p2) v_X10_put (hK.2 _ (List.mem_of_getElem? (i := 28) rfl)) rfl rfl ⟨Nat.le_of_ble_eq_true rfl, Nat.le_of_ble_eq_true rfl⟩ hI hK hl.1 rfl rfl (Nat.le_of_ble_eq_true rfl) dX3_addCommand_38 ⟨Nat.le_of_ble_eq_true rfl, Nat.le_of_ble_eq_true rfl⟩) hI (fun M H locs hp hI => ?_)
      obtain ⟨hn, hF⟩ := hp
      have hL0 := qLI.s2 hL0 hn hF
      have hS := hS.tr hF (fun q hq => by omega)
      refine lv_aload_n hx hb dX3_addCommand_41 rfl (lv_at hl 0 rfl) ?_
      refine q_get hx hb hg in_X3 hown hK hI hL0.1 rfl 3 (by decide) (hg _ wf_X3_24) (fun _ h9 => h9) rfl dX3_addCommand_42 ?_
      refine lv_aload_n hx hb dX3_addCommand_45 rfl (lv_at hl 0 rfl) ?_
      refine q_get hx hb hg in_X3 hown hK hI hL0.1 rfl 5 (by decide) (hg _ wf_X3_35) (fun _ h9 => h9) rfl dX3_addCommand_46 ?_
      refine lv_iload_n hx hb dX3_addCommand_49 rfl (lv_at hl 3 rfl) ?_
      refine q_goN (q_runSN (As := [.ref (a + 4), .int v.2.2.2.2.2.1, .int p3]) (rest := []) hx hb hml hown hg (c_X10_put l D cs hL0.2.2.2.1 v.2.2.2.2.2.1 p3) v_X10_put (hK.2 _ (List.mem_of_getElem? (i := 28) rfl)) rfl rfl ⟨Nat.le_of_ble_eq_true rfl, Nat.le_of_ble_eq_true rfl⟩ hI hK hl.1 rfl rfl (Nat.le_of_ble_eq_true rfl) dX3_addCommand_50 ⟨Nat.le_of_ble_eq_true rfl, Nat.le_of_ble_eq_true rfl⟩) hI (fun M H locs hp hI => ?_)
      obtain ⟨hn, hF⟩ := hp
      have hL0 := qLI.s3 hL0 hn hF
      have hS := hS.tr hF (fun q hq => by omega)
      refine lv_aload_n hx hb dX3_addCommand_53 rfl (lv_at hl 0 rfl) ?_
      refine lv_dup hx hb dX3_addCommand_54 rfl ?_
      refine q_get hx hb hg in_X3 hown hK hI hL0.1 rfl 5 (by decide) (hg _ wf_X3_35) (fun _ h9 => h9) rfl dX3_addCommand_55 ?_
      refine lv_iconst (v := 1) hx hb dX3_addCommand_58 (by decide) ?_
      refine lv_iadd hx hb dX3_addCommand_59 ?_
      have hn := qLI.i5 (v.2.2.2.2.2.1 + 1) hL0
      refine q_put (v := .int (v.2.2.2.2.2.1 + 1)) hx hb hg in_X3 tyX3_ok nmX3 hown hK hI hL0.1 rfl 5 (by decide) (hg _ wf_X3_35) (fun _ h9 => h9) rfl rfl rfl (Nat.le_of_ble_eq_true rfl) dX3_addCommand_60 (fun H locs hI => ?_)
      exact q_vret (st := []) hx hb hret hlk hN hI (by subst hR; exact ⟨rfl, ⟨hn, hS.tr (qFr.up (k := 1) (by decide)) (fun q hq => by omega)⟩, rfl⟩) dX3_addCommand_63
def s_tc57 (v : qIV) (k : Nat) (x y : Int32) : Bool × qIV := if x < 0 then (false, v) else if 0 ≤ y then (true, s_X3_addCommand v k x y) else (false, v)
def s_tc27 (v : qIV) (k : Nat) (x : Int32) : Bool × qIV :=
  if x < 0 then s_tc57 v k x 0 else if qWn k ≤ 1 then s_tc57 v k x 0 else if qbi (s_X3_takeSign v 32).1 = 0 then s_tc57 (s_X3_takeSign v 32).2 k x (-1) else s_tc57 (s_X3_takeNumber (s_X3_takeSign v 32).2).2 k x (s_X3_takeNumber (s_X3_takeSign v 32).2).1
def s_X3_takeCommand (v : qIV) : Bool × qIV :=
  if (s_X3_takeWord v).1 < 0 then (false, (s_X3_takeWord v).2) else if qWn (s_X3_takeWord v).1.toNatClampNeg ≤ 0 then s_tc27 (s_X3_takeWord v).2 (s_X3_takeWord v).1.toNatClampNeg 0 else s_tc27 (s_X3_takeNumber (s_X3_takeWord v).2).2 (s_X3_takeWord v).1.toNatClampNeg (s_X3_takeNumber (s_X3_takeWord v).2).1
theorem s_takeWord_lt (v : qIV) : ∀ (n j : Nat) (x : Int32), n + j = 8 → (s_X3_takeWord_L v n j x).1.toNatClampNeg < 8 := by
  intro n
  induction n with
  | zero => intro j x hj; rw [s_X3_takeWord_L]; show ((-1 : Int32)).toNatClampNeg < 8; decide
  | succ n ih =>
    intro j x hj
    rw [s_X3_takeWord_L]
    split
    · show (nI j).toNatClampNeg < 8
      rw [nI_clamp (by omega)]
      omega
    · exact ih (j + 1) _ (by omega)
set_option maxHeartbeats 8000000 in
theorem c_X3_takeCommand (l : Launch) (D : va_G) (cs : qC) {N00 : Nat} {M0 : qM} {N a : Nat} {v : qIV} (hd : qDom N00 M0 N) (hL0 : qLI cs M0 a v) :
    qMetZ l D cs N00 yX3_takeCommand (qws yX3_takeCommand cX3_takeCommand 4 (some .boolean)) (qRm 6 230) M0 N [.ref a] (qMod N (some (.int (qbi (s_X3_takeCommand v).1))) (fun M' => qLI cs M' a (s_X3_takeCommand v).2 ∧ qFr (qIn a 5) M0 M')) 0 0 := by
  obtain ⟨R, hR⟩ : ∃ R, s_X3_takeCommand v = R := ⟨_, rfl⟩
  rw [hR]
  rw [s_X3_takeCommand] at hR
  refine z_head (by decide +kernel) ?_ (Nat.le_of_ble_eq_true rfl)
  intro p e s m below meth c ls hx hb hret hlk hml hown hnm hg hK hN hZ hI hl
  have hl : lv_has ls 4 [(0, .ref a)] := hl
  have hS : qFr (qIn a 5) M0 M0 := qFr.rf
  have hlt : (s_X3_takeWord v).1.toNatClampNeg < 8 := s_takeWord_lt v 8 0 0 rfl
  refine lv_aload_n hx hb dX3_takeCommand_0 rfl (lv_at hl 0 rfl) ?_
  refine q_goP (q_runVZ (As := []) (rest := []) hx hb hml hown hg (c_X3_takeWord l D cs hd hL0) v_X3_takeWord wl_X3_49 rfl rfl ⟨Nat.le_of_ble_eq_true rfl, Nat.le_of_ble_eq_true rfl⟩ hI hK (hI.z hN hd hZ) 4 hL0.1 rfl hl.1 rfl rfl (Nat.le_of_ble_eq_true rfl) dX3_takeCommand_1 ⟨Nat.le_of_ble_eq_true rfl, Nat.le_of_ble_eq_true rfl⟩) hI (fun M H locs hp hI => ?_)
  obtain ⟨hL0, hF⟩ := hp
  generalize heg : s_X3_takeWord v = g at hL0 hR hlt ⊢
  have hS := hS.tr hF (fun q hq => hq)
  by_cases c1 : g.1 < 0
  · rw [if_pos c1] at hR
    rw [qWd_neg c1]
    refine lv_astore_nN (lv' := [(1, .null), (0, .ref a)]) hx hb dX3_takeCommand_4 rfl hl (by decide) rfl (fun ls hl => ?_)
    refine lv_aload_nN hx hb dX3_takeCommand_5 rfl (lv_at hl 0 rfl) ?_
    refine lv_ifnonnullN hx hb dX3_takeCommand_6 ?_
    refine lv_iconst (v := 0) hx hb dX3_takeCommand_9 (by decide) ?_
    exact q_zret hx hb hret rfl hlk hN hI (by subst hR; exact ⟨rfl, ⟨hL0, hS⟩, rfl⟩) dX3_takeCommand_10
  rw [if_neg c1] at hR
  rw [qWd_pos c1]
  generalize hk : g.1.toNatClampNeg = k at hR hlt ⊢
  have at57 : ∀ (M : qM) (w : qIV) (x y : Int32) (H : Heap) (locs : List Loc) (ls : Array Slot), qLI cs M a w → qFr (qIn a 5) M0 M → s_tc57 w k x y = R → qI D M0 s.heap M N H locs → lv_has ls 4 [(0, .ref a), (1, .ref (cs (16 + k))), (2, .int x), (3, .int y)] →
      W p l e (qRm 6 230) s m [Value.ref a].toArray below meth c H locs 0 0 (MQ below (qQ D M0 N (qMod N (some (.int (qbi R.1))) (fun M' => qLI cs M' a R.2 ∧ qFr (qIn a 5) M0 M'))) [Value.ref a].toArray s 0 0 (qA M0 N)) (F0 m 57 ls []) := by
    intro M w x y H locs ls hL0 hS hR hI hl
    rw [s_tc57] at hR
    refine lv_iload_n hx hb dX3_takeCommand_57 rfl (lv_at hl 2 rfl) ?_
    refine lv_if_lt (tgt := 65) hx hb dX3_takeCommand_58 (by decide) (fun c2 => ?_) (fun c2 => ?_)
    · rw [if_pos c2] at hR
      refine lv_iconst (v := 0) hx hb dX3_takeCommand_65 (by decide) ?_
      exact q_zret hx hb hret rfl hlk hN hI (by subst hR; exact ⟨rfl, ⟨hL0, hS⟩, rfl⟩) dX3_takeCommand_66
    · rw [if_neg c2] at hR
      refine lv_iload_n hx hb dX3_takeCommand_61 rfl (lv_at hl 3 rfl) ?_
      refine lv_if_ge (tgt := 67) hx hb dX3_takeCommand_62 (by decide) (fun c3 => ?_) (fun c3 => ?_)
      · rw [if_pos c3] at hR
        refine lv_aload_n hx hb dX3_takeCommand_67 rfl (lv_at hl 0 rfl) ?_
        refine lv_aload_n hx hb dX3_takeCommand_68 rfl (lv_at hl 1 rfl) ?_
        refine lv_iload_n hx hb dX3_takeCommand_69 rfl (lv_at hl 2 rfl) ?_
        refine lv_iload_n hx hb dX3_takeCommand_70 rfl (lv_at hl 3 rfl) ?_
        refine q_goN (q_runVZ (As := [.ref (cs (16 + k)), .int x, .int y]) (rest := []) hx hb hml hown hg (c_X3_addCommand l D cs (hI.dom hN hd) hL0 hlt x y) v_X3_addCommand wl_X3_60 rfl rfl ⟨Nat.le_of_ble_eq_true rfl, Nat.le_of_ble_eq_true rfl⟩ hI hK (hI.z hN hd hZ) 4 hL0.1 rfl hl.1 rfl rfl (Nat.le_of_ble_eq_true rfl) dX3_takeCommand_71 ⟨Nat.le_of_ble_eq_true rfl, Nat.le_of_ble_eq_true rfl⟩) hI (fun M H locs hp hI => ?_)
        obtain ⟨hL0, hF⟩ := hp
        have hS := hS.tr hF (fun q hq => hq)
        refine lv_iconst (v := 1) hx hb dX3_takeCommand_74 (by decide) ?_
        exact q_zret hx hb hret rfl hlk hN hI (by subst hR; exact ⟨rfl, ⟨hL0, hS⟩, rfl⟩) dX3_takeCommand_75
      · rw [if_neg c3] at hR
        refine lv_iconst (v := 0) hx hb dX3_takeCommand_65 (by decide) ?_
        exact q_zret hx hb hret rfl hlk hN hI (by subst hR; exact ⟨rfl, ⟨hL0, hS⟩, rfl⟩) dX3_takeCommand_66
  have at27 : ∀ (M : qM) (w : qIV) (x : Int32) (H : Heap) (locs : List Loc) (ls : Array Slot), qLI cs M a w → qFr (qIn a 5) M0 M → s_tc27 w k x = R → qI D M0 s.heap M N H locs → lv_has ls 4 [(0, .ref a), (1, .ref (cs (16 + k))), (2, .int x), (3, .int 0)] →
      W p l e (qRm 6 230) s m [Value.ref a].toArray below meth c H locs 0 0 (MQ below (qQ D M0 N (qMod N (some (.int (qbi R.1))) (fun M' => qLI cs M' a R.2 ∧ qFr (qIn a 5) M0 M'))) [Value.ref a].toArray s 0 0 (qA M0 N)) (F0 m 27 ls []) := by
    intro M w x H locs ls hL0 hS hR hI hl
    rw [s_tc27] at hR
    refine lv_iload_n hx hb dX3_takeCommand_27 rfl (lv_at hl 2 rfl) ?_
    refine lv_if_lt (tgt := 57) hx hb dX3_takeCommand_28 (by decide) (fun c2 => ?_) (fun c2 => ?_)
    · rw [if_pos c2] at hR
      exact at57 M w x 0 H locs ls hL0 hS hR hI hl
    · rw [if_neg c2] at hR
      refine lv_aload_n hx hb dX3_takeCommand_31 rfl (lv_at hl 1 rfl) ?_
      refine z_getfN hx hb (hZ.2.1 k hlt).2.2.1 (hI.zS hN hd) hown (hK.2 _ (List.mem_of_getElem? (i := 50) rfl)) (fun _ h9 => h9) dX3_takeCommand_32 ?_
      refine lv_iconst (v := 1) hx hb dX3_takeCommand_35 (by decide) ?_
      refine lv_icmp_le (tgt := 57) hx hb dX3_takeCommand_36 (by decide) (fun c3 => ?_) (fun c3 => ?_)
      · rw [if_pos c3] at hR
        exact at57 M w x 0 H locs ls hL0 hS hR hI hl
      · rw [if_neg c3] at hR
        refine lv_aload_n hx hb dX3_takeCommand_39 rfl (lv_at hl 0 rfl) ?_
        refine lv_bipush (v := 32) hx hb dX3_takeCommand_40 (by decide) ?_
        refine q_goP (q_runV (As := [.int 32]) (rest := []) hx hb hml hown hg (c_X3_takeSign l D cs hL0 32) v_X3_takeSign wl_X3_45 rfl rfl ⟨Nat.le_of_ble_eq_true rfl, Nat.le_of_ble_eq_true rfl⟩ hI hK 4 hL0.1 rfl hl.1 rfl rfl (Nat.le_of_ble_eq_true rfl) dX3_takeCommand_42 ⟨Nat.le_of_ble_eq_true rfl, Nat.le_of_ble_eq_true rfl⟩) hI (fun M H locs hp hI => ?_)
        obtain ⟨hL0, hF⟩ := hp
        have hS := hS.tr hF (fun q hq => hq)
        generalize heg2 : s_X3_takeSign w 32 = g2 at hL0 hR ⊢
        refine lv_if_eq (tgt := 55) hx hb dX3_takeCommand_45 (by decide) (fun c4 => ?_) (fun c4 => ?_)
        · rw [if_pos c4] at hR
          refine lv_iconst (v := (-1)) hx hb dX3_takeCommand_55 (by decide) ?_
          refine lv_istore_n (lv' := [(3, .int (-1)), (0, .ref a), (1, .ref (cs (16 + k))), (2, .int x)]) hx hb dX3_takeCommand_56 rfl hl (by decide) rfl (fun ls hl => ?_)
          exact at57 M _ x (-1) H locs ls hL0 hS hR hI (lv_sub hl [1, 2, 3, 0] rfl)
        · rw [if_neg c4] at hR
          refine lv_aload_n hx hb dX3_takeCommand_48 rfl (lv_at hl 0 rfl) ?_
          refine q_goP (q_runV (As := []) (rest := []) hx hb hml hown hg (c_X3_takeNumber l D cs hL0) v_X3_takeNumber wl_X3_56 rfl rfl ⟨Nat.le_of_ble_eq_true rfl, Nat.le_of_ble_eq_true rfl⟩ hI hK 4 hL0.1 rfl hl.1 rfl rfl (Nat.le_of_ble_eq_true rfl) dX3_takeCommand_49 ⟨Nat.le_of_ble_eq_true rfl, Nat.le_of_ble_eq_true rfl⟩) hI (fun M H locs hp hI => ?_)
          obtain ⟨hL0, hF⟩ := hp
          have hS := hS.tr hF (fun q hq => hq)
          generalize heg3 : s_X3_takeNumber g2.2 = g3 at hL0 hR ⊢
          refine lv_goto (tgt := 56) hx hb dX3_takeCommand_52 (by decide) ?_
          refine lv_istore_n (lv' := [(3, .int g3.1), (0, .ref a), (1, .ref (cs (16 + k))), (2, .int x)]) hx hb dX3_takeCommand_56 rfl hl (by decide) rfl (fun ls hl => ?_)
          exact at57 M _ x g3.1 H locs ls hL0 hS hR hI (lv_sub hl [1, 2, 3, 0] rfl)
  refine lv_astore_n (lv' := [(1, .ref (cs (16 + k))), (0, .ref a)]) hx hb dX3_takeCommand_4 rfl hl (by decide) rfl (fun ls hl => ?_)
  refine lv_aload_n hx hb dX3_takeCommand_5 rfl (lv_at hl 0 rfl) ?_
  refine lv_ifnonnull (tgt := 11) hx hb dX3_takeCommand_6 (by decide) ?_
  refine lv_iconst (v := 0) hx hb dX3_takeCommand_11 (by decide) ?_
  refine lv_istore_n (lv' := [(2, .int 0), (1, .ref (cs (16 + k))), (0, .ref a)]) hx hb dX3_takeCommand_12 rfl hl (by decide) rfl (fun ls hl => ?_)
  refine lv_iconst (v := 0) hx hb dX3_takeCommand_13 (by decide) ?_
  refine lv_istore_n (lv' := [(3, .int 0), (2, .int 0), (1, .ref (cs (16 + k))), (0, .ref a)]) hx hb dX3_takeCommand_14 rfl hl (by decide) rfl (fun ls hl => ?_)
  refine lv_aload_n hx hb dX3_takeCommand_15 rfl (lv_at hl 2 rfl) ?_
  refine z_getfN hx hb (hZ.2.1 k hlt).2.2.1 (hI.zS hN hd) hown (hK.2 _ (List.mem_of_getElem? (i := 50) rfl)) (fun _ h9 => h9) dX3_takeCommand_16 ?_
  refine lv_if_le (tgt := 27) hx hb dX3_takeCommand_19 (by decide) (fun c5 => ?_) (fun c5 => ?_)
  · rw [if_pos c5] at hR
    exact at27 M _ 0 H locs ls hL0 hS hR hI (lv_sub hl [3, 2, 1, 0] rfl)
  · rw [if_neg c5] at hR
    refine lv_aload_n hx hb dX3_takeCommand_22 rfl (lv_at hl 3 rfl) ?_
    refine q_goP (q_runV (As := []) (rest := []) hx hb hml hown hg (c_X3_takeNumber l D cs hL0) v_X3_takeNumber wl_X3_56 rfl rfl ⟨Nat.le_of_ble_eq_true rfl, Nat.le_of_ble_eq_true rfl⟩ hI hK 4 hL0.1 rfl hl.1 rfl rfl (Nat.le_of_ble_eq_true rfl) dX3_takeCommand_23 ⟨Nat.le_of_ble_eq_true rfl, Nat.le_of_ble_eq_true rfl⟩) hI (fun M H locs hp hI => ?_)
    obtain ⟨hL0, hF⟩ := hp
    have hS := hS.tr hF (fun q hq => hq)
    generalize heg3 : s_X3_takeNumber g.2 = g3 at hL0 hR ⊢
    refine lv_istore_n (lv' := [(2, .int g3.1), (3, .int 0), (1, .ref (cs (16 + k))), (0, .ref a)]) hx hb dX3_takeCommand_26 rfl hl (by decide) rfl (fun ls hl => ?_)
    exact at27 M _ g3.1 H locs ls hL0 hS hR hI (lv_sub hl [3, 2, 0, 1] rfl)
