/-! TAKE APART -/
def qPlace0 (v : qIV) : qIV := (v.1, v.2.1, v.2.2.1, v.2.2.2.1, v.2.2.2.2.1, 0, 0)
def s_X3_takeApart_L : Nat → qIV → Bool × qIV
  | 0, v => (false, v)
  | n + 1, v => if qbi (s_X3_takeCommand v).1 = 0 then (false, (s_X3_takeCommand v).2) else if (s_X3_takeCommand v).2.2.2.2.2.2.2 < (s_X3_takeCommand v).2.2.2.2.2.1 then (if qbi (s_X3_takeSign (s_X3_takeCommand v).2 59).1 = 0 then (false, (s_X3_takeSign (s_X3_takeCommand v).2 59).2) else s_X3_takeApart_L n (s_X3_takeSign (s_X3_takeCommand v).2 59).2) else (true, (s_X3_takeCommand v).2)
def s_X3_takeApart (v : qIV) : Bool × qIV := s_X3_takeApart_L 60 (qPlace0 v)
set_option maxHeartbeats 8000000 in
theorem c_X3_takeApart (l : Launch) (D : va_G) (cs : qC) {N00 : Nat} {M0 : qM} {N a : Nat} {v : qIV} (hd : qDom N00 M0 N) (hL0 : qLI cs M0 a v) :
    qMetZ l D cs N00 yX3_takeApart (qws yX3_takeApart cX3_takeApart 2 (some .boolean)) (qRm 7 270) M0 N [.ref a] (qMod N (some (.int (qbi (s_X3_takeApart v).1))) (fun M' => qLI cs M' a (s_X3_takeApart v).2 ∧ qFr (qIn a 5) M0 M')) 0 0 := by
  obtain ⟨R, hR⟩ : ∃ R, s_X3_takeApart v = R := ⟨_, rfl⟩
  rw [hR]
  rw [s_X3_takeApart] at hR
  refine z_head (by decide +kernel) ?_ (Nat.le_of_ble_eq_true rfl)
  intro p e s m below meth c ls hx hb hret hlk hml hown hnm hg hK hN hZ hI hl
  have hl : lv_has ls 2 [(0, .ref a)] := hl
  refine lv_aload_n hx hb dX3_takeApart_0 rfl (lv_at hl 0 rfl) ?_
  refine lv_iconst (v := 0) hx hb dX3_takeApart_1 (by decide) ?_
  have hn := qLI.i6 0 hL0
  refine q_put (v := .int 0) hx hb hg in_X3 tyX3_ok nmX3 hown hK hI hL0.1 rfl 6 (by decide) (hg _ wf_X3_38) (fun _ h9 => h9) rfl rfl rfl (Nat.le_of_ble_eq_true rfl) dX3_takeApart_2 (fun H locs hI => ?_)
  obtain ⟨M, hL0, hS, hI⟩ : ∃ Mx : qM, qLI cs Mx a (v.1, v.2.1, v.2.2.1, v.2.2.2.1, v.2.2.2.2.1, v.2.2.2.2.2.1, 0) ∧ qFr (qIn a 5) M0 Mx ∧ qI D M0 s.heap Mx N H locs := ⟨_, hn, qFr.rf.tr (qFr.up (k := 1) (by decide)) (fun q hq => by omega), hI⟩
  refine lv_aload_n hx hb dX3_takeApart_5 rfl (lv_at hl 0 rfl) ?_
  refine lv_iconst (v := 0) hx hb dX3_takeApart_6 (by decide) ?_
  have hn := qLI.i5 0 hL0
  refine q_put (v := .int 0) hx hb hg in_X3 tyX3_ok nmX3 hown hK hI hL0.1 rfl 5 (by decide) (hg _ wf_X3_35) (fun _ h9 => h9) rfl rfl rfl (Nat.le_of_ble_eq_true rfl) dX3_takeApart_7 (fun H locs hI => ?_)
  obtain ⟨M, hL0, hS, hI⟩ : ∃ Mx : qM, qLI cs Mx a (qPlace0 v) ∧ qFr (qIn a 5) M0 Mx ∧ qI D M0 s.heap Mx N H locs := ⟨_, hn, hS.tr (qFr.up (k := 1) (by decide)) (fun q hq => by omega), hI⟩
  refine lv_iconst (v := nI 0) hx hb dX3_takeApart_10 (by decide) ?_
  refine lv_istore_n (lv' := [(1, .int (nI 0)), (0, .ref a)]) hx hb dX3_takeApart_11 rfl hl (by decide) rfl (fun ls hl => ?_)
  have loop : ∀ (n j : Nat), n + j = 60 → ∀ (v : qIV), s_X3_takeApart_L n v = R → ∀ (M : qM) (H : Heap) (locs : List Loc) (ls : Array Slot), qLI cs M a v → qFr (qIn a 5) M0 M → qI D M0 s.heap M N H locs → lv_has ls 2 [(1, .int (nI j)), (0, .ref a)] →
      W p l e (qRm 7 270) s m [Value.ref a].toArray below meth c H locs 0 0 (MQ below (qQ D M0 N (qMod N (some (.int (qbi R.1))) (fun M' => qLI cs M' a R.2 ∧ qFr (qIn a 5) M0 M'))) [Value.ref a].toArray s 0 0 (qA M0 N)) (F0 m 12 ls []) := by
    intro n
    induction n with
    | zero =>
      intro j hj v hR M H locs ls hL0 hS hI hl
      obtain rfl : j = 60 := by omega
      rw [s_X3_takeApart_L] at hR
      refine lv_iload_n hx hb dX3_takeApart_12 rfl (lv_at hl 0 rfl) ?_
      refine lv_bipush (v := 60) hx hb dX3_takeApart_13 (by decide) ?_
      refine lv_icmp_ge (tgt := 57) hx hb dX3_takeApart_15 (by decide) (fun c2 => ?_) (fun c2 => absurd (by decide) c2)
      refine lv_iconst (v := 0) hx hb dX3_takeApart_57 (by decide) ?_
      exact q_zret hx hb hret rfl hlk hN hI (by subst hR; exact ⟨rfl, ⟨hL0, hS⟩, rfl⟩) dX3_takeApart_58
    | succ n ih =>
      intro j hj v hR M H locs ls hL0 hS hI hl
      have hj8 : j < 60 := by omega
      rw [s_X3_takeApart_L] at hR
      refine lv_iload_n hx hb dX3_takeApart_12 rfl (lv_at hl 0 rfl) ?_
      refine lv_bipush (v := 60) hx hb dX3_takeApart_13 (by decide) ?_
      refine lv_icmp_ge (tgt := 57) hx hb dX3_takeApart_15 (by decide) (fun c2 => absurd c2 (nI_ge (b := 60) hj8 (by decide))) (fun c2 => ?_)
      refine lv_aload_n hx hb dX3_takeApart_18 rfl (lv_at hl 1 rfl) ?_
      refine q_goP (q_runVZ (As := []) (rest := []) hx hb hml hown hg (c_X3_takeCommand l D cs (hI.dom hN hd) hL0) v_X3_takeCommand wl_X3_41 rfl rfl ⟨Nat.le_of_ble_eq_true rfl, Nat.le_of_ble_eq_true rfl⟩ hI hK (hI.z hN hd hZ) 4 hL0.1 rfl hl.1 rfl rfl (Nat.le_of_ble_eq_true rfl) dX3_takeApart_19 ⟨Nat.le_of_ble_eq_true rfl, Nat.le_of_ble_eq_true rfl⟩) hI (fun M H locs hp hI => ?_)
      obtain ⟨hL0, hF⟩ := hp
      have hS := hS.tr hF (fun q hq => hq)
      generalize heg : s_X3_takeCommand v = g at hL0 hR ⊢
      refine lv_if_ne (tgt := 27) hx hb dX3_takeApart_22 (by decide) (fun c3 => ?_) (fun c3 => ?_)
      · rw [if_neg c3] at hR
        refine lv_aload_n hx hb dX3_takeApart_27 rfl (lv_at hl 1 rfl) ?_
        refine q_get hx hb hg in_X3 hown hK hI hL0.1 rfl 6 (by decide) (hg _ wf_X3_38) (fun _ h9 => h9) rfl dX3_takeApart_28 ?_
        refine lv_aload_n hx hb dX3_takeApart_31 rfl (lv_at hl 1 rfl) ?_
        refine q_get hx hb hg in_X3 hown hK hI hL0.1 rfl 4 (by decide) (hg _ wf_X3_27) (fun _ h9 => h9) rfl dX3_takeApart_32 ?_
        refine lv_icmp_lt (tgt := 40) hx hb dX3_takeApart_35 (by decide) (fun c4 => ?_) (fun c4 => ?_)
        · rw [if_pos c4] at hR
          refine lv_aload_n hx hb dX3_takeApart_40 rfl (lv_at hl 1 rfl) ?_
          refine lv_bipush (v := 59) hx hb dX3_takeApart_41 (by decide) ?_
          refine q_goP (q_runV (As := [.int 59]) (rest := []) hx hb hml hown hg (c_X3_takeSign l D cs hL0 59) v_X3_takeSign wl_X3_45 rfl rfl ⟨Nat.le_of_ble_eq_true rfl, Nat.le_of_ble_eq_true rfl⟩ hI hK 4 hL0.1 rfl hl.1 rfl rfl (Nat.le_of_ble_eq_true rfl) dX3_takeApart_43 ⟨Nat.le_of_ble_eq_true rfl, Nat.le_of_ble_eq_true rfl⟩) hI (fun M H locs hp hI => ?_)
          obtain ⟨hL0, hF⟩ := hp
          have hS := hS.tr hF (fun q hq => hq)
          generalize heg2 : s_X3_takeSign g.2 59 = g2 at hL0 hR ⊢
          refine lv_if_ne (tgt := 51) hx hb dX3_takeApart_46 (by decide) (fun c5 => ?_) (fun c5 => ?_)
          · rw [if_neg c5] at hR
            refine lv_iinc (v := nI (j + 1)) (lv' := [(1, .int (nI (j + 1))), (0, .ref a)]) hx hb dX3_takeApart_51 hl (k := 0) rfl (by rw [nI_succ]; rfl) (by decide) rfl (fun ls hl => ?_)
            refine lv_goto (tgt := 12) hx hb dX3_takeApart_54 (by decide) ?_
            exact ih (j + 1) (by omega) _ hR M H locs ls hL0 hS hI hl
          · rw [if_pos c5] at hR
            refine lv_iconst (v := 0) hx hb dX3_takeApart_49 (by decide) ?_
            exact q_zret hx hb hret rfl hlk hN hI (by subst hR; exact ⟨rfl, ⟨hL0, hS⟩, rfl⟩) dX3_takeApart_50
        · rw [if_neg c4] at hR
          refine lv_iconst (v := 1) hx hb dX3_takeApart_38 (by decide) ?_
          exact q_zret hx hb hret rfl hlk hN hI (by subst hR; exact ⟨rfl, ⟨hL0, hS⟩, rfl⟩) dX3_takeApart_39
      · rw [if_pos c3] at hR
        refine lv_iconst (v := 0) hx hb dX3_takeApart_25 (by decide) ?_
        exact q_zret hx hb hret rfl hlk hN hI (by subst hR; exact ⟨rfl, ⟨hL0, hS⟩, rfl⟩) dX3_takeApart_26
  exact loop 60 0 rfl _ hR M H locs ls hL0 hS hI hl
