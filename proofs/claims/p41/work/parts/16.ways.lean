def s_X5_doWaysAgree_L49 (v : qQV) (x1h2 : Int32) (K2 : Int32 → Bool) : Nat → Int32 → Bool
  | 0, _ => default
  | n + 1, x2h49 => (if v.1.2.2 ≤ x2h49 then (K2 (x1h2 + 1)) else (if (s_X5_jointByRopes v x1h2 x2h49) = (s_X1_jointByHolders v.1 x1h2 x2h49) then (s_X5_doWaysAgree_L49 v x1h2 K2 n (x2h49 + 1)) else false))
def s_X5_doWaysAgree_L2 (v : qQV) : Nat → Int32 → Bool
  | 0, _ => default
  | n + 1, x1h2 => (if v.1.2.2 ≤ x1h2 then true else (if (s_X5_sumByRopes v x1h2) = (s_X1_sumByHolders v.1 x1h2) then (if (s_X5_rootByTops v x1h2) = (s_X1_rootByHolders v.1 x1h2) then (s_X5_doWaysAgree_L49 v x1h2 (s_X5_doWaysAgree_L2 v n) (v.1.2.2.toInt.toNat + 1) 0) else false) else false))
def s_X5_doWaysAgree (v : qQV)  : Bool := (s_X5_doWaysAgree_L2 v (v.1.2.2.toInt.toNat + 1) 0)
set_option maxHeartbeats 4000000 in
set_option maxRecDepth 20000 in
theorem c_X5_doWaysAgree (l : Launch) (D : va_G) (cs : qC) {M0 : qM} {N a : Nat} {v : qQV} (hL0 : qLQ cs M0 a v) :
    qMet l D cs yX5_doWaysAgree (qws yX5_doWaysAgree cX5_doWaysAgree 3 (some .boolean)) ({ frames := 6, cells := 0, slots := 0, locals := 142 } : Room) M0 N [.ref a] (qRet M0 N (.int (qbi (s_X5_doWaysAgree v)))) 0 0 := by
  obtain ⟨R, hR⟩ : ∃ R, s_X5_doWaysAgree v = R := ⟨_, rfl⟩
  rw [hR]
  rw [s_X5_doWaysAgree] at hR
  refine q_head (by decide +kernel) ?_ (Nat.le_of_ble_eq_true rfl)
  intro p e s m below meth c ls hx hb hret hlk hml hown hnm hg hK hN hI hl
  have hl : lv_has ls 3 [(0, .ref a)] := hl
  refine lv_iconst (v := 0) hx hb dX5_doWaysAgree_0 (by decide) ?_
  refine lv_istore_n (lv' := [(1, .int 0), (0, .ref a)]) hx hb dX5_doWaysAgree_1 rfl hl (by decide) rfl (fun ls hl => ?_)
  have loop2 : ∀ (n2 : Nat) (x1h2 : Int32), qmu v.1.2.2 x1h2 < n2 → s_X5_doWaysAgree_L2 v n2 x1h2 = R → ∀ (H : Heap) (locs : List Loc) (ls : Array Slot), qI D M0 s.heap M0 N H locs → lv_has ls 3 [(0, .ref a), (1, .int x1h2)] →
      W p l e ({ frames := 6, cells := 0, slots := 0, locals := 142 } : Room) s m [Value.ref a].toArray below meth c H locs 0 0 (MQ below (qQ D M0 N (qRet M0 N (.int (qbi R)))) [Value.ref a].toArray s 0 0 (qA M0 N)) (F0 m 2 ls []) := by
    intro n2
    induction n2 with
    | zero => intro x1h2 hm; exact absurd hm (Nat.not_lt_zero _)
    | succ n2 ih2 =>
      intro x1h2 hm2 hR H locs ls  hI hl
      rw [s_X5_doWaysAgree_L2] at hR
      refine lv_iload_n hx hb dX5_doWaysAgree_2 rfl (lv_at hl 1 rfl) ?_
      refine lv_aload_n hx hb dX5_doWaysAgree_3 rfl (lv_at hl 0 rfl) ?_
      refine q_get hx hb hg in_X5 hown hK hI hL0.1 rfl 0 (by decide) (hg _ wf_X5_12) (fun _ h9 => h9) rfl dX5_doWaysAgree_4 ?_
      refine q_getN hx hb hg in_X1 hown hK hI hL0.2.1.1 rfl 2 (by decide) (hK.2 _ (List.mem_of_getElem? (i := 3) rfl)) (fun _ h9 => h9) rfl dX5_doWaysAgree_7 ?_
      refine lv_icmp_ge (tgt := 92) hx hb dX5_doWaysAgree_10 (by decide) (fun c1 => ?_) (fun c1 => ?_)
      · rw [if_pos c1] at hR
        refine lv_iconst (v := 1) hx hb dX5_doWaysAgree_92 (by decide) ?_
        exact q_zret hx hb hret rfl hlk hN hI (by subst hR; exact ⟨rfl, rfl, rfl⟩) dX5_doWaysAgree_93
      · rw [if_neg c1] at hR
        refine lv_aload_n hx hb dX5_doWaysAgree_13 rfl (lv_at hl 0 rfl) ?_
        refine lv_iload_n hx hb dX5_doWaysAgree_14 rfl (lv_at hl 1 rfl) ?_
        refine q_goR (q_runV (As := [.int x1h2]) (rest := []) hx hb hml hown hg (c_X5_sumByRopes l D cs hL0 x1h2) v_X5_sumByRopes wl_X5_165 rfl rfl ⟨Nat.le_of_ble_eq_true rfl, Nat.le_of_ble_eq_true rfl⟩ hI hK 6 hL0.1 rfl hl.1 rfl rfl (Nat.le_of_ble_eq_true rfl) dX5_doWaysAgree_15 ⟨Nat.le_of_ble_eq_true rfl, Nat.le_of_ble_eq_true rfl⟩) hI (fun H locs hI => ?_)
        refine lv_aload_n hx hb dX5_doWaysAgree_18 rfl (lv_at hl 0 rfl) ?_
        refine q_get hx hb hg in_X5 hown hK hI hL0.1 rfl 0 (by decide) (hg _ wf_X5_12) (fun _ h9 => h9) rfl dX5_doWaysAgree_19 ?_
        refine lv_iload_n hx hb dX5_doWaysAgree_22 rfl (lv_at hl 1 rfl) ?_
        refine q_goR (q_runV (As := [.int x1h2]) (rest := [.int (s_X5_sumByRopes v x1h2)]) hx hb hml hown hg (c_X1_sumByHolders l D cs hL0.2.1 x1h2) v_X1_sumByHolders wl_X5_102 rfl rfl ⟨Nat.le_of_ble_eq_true rfl, Nat.le_of_ble_eq_true rfl⟩ hI hK 2 hL0.2.1.1 rfl hl.1 rfl rfl (Nat.le_of_ble_eq_true rfl) dX5_doWaysAgree_23 ⟨Nat.le_of_ble_eq_true rfl, Nat.le_of_ble_eq_true rfl⟩) hI (fun H locs hI => ?_)
        refine lv_icmp_ne (tgt := 45) hx hb dX5_doWaysAgree_26 (by decide) (fun c2 => ?_) (fun c2 => ?_)
        · rw [if_neg c2] at hR
          refine lv_iconst (v := 0) hx hb dX5_doWaysAgree_45 (by decide) ?_
          exact q_zret hx hb hret rfl hlk hN hI (by subst hR; exact ⟨rfl, rfl, rfl⟩) dX5_doWaysAgree_46
        · rw [if_pos c2] at hR
          refine lv_aload_n hx hb dX5_doWaysAgree_29 rfl (lv_at hl 0 rfl) ?_
          refine lv_iload_n hx hb dX5_doWaysAgree_30 rfl (lv_at hl 1 rfl) ?_
          refine q_goR (q_runV (As := [.int x1h2]) (rest := []) hx hb hml hown hg (c_X5_rootByTops l D cs hL0 x1h2) v_X5_rootByTops wl_X5_168 rfl rfl ⟨Nat.le_of_ble_eq_true rfl, Nat.le_of_ble_eq_true rfl⟩ hI hK 6 hL0.1 rfl hl.1 rfl rfl (Nat.le_of_ble_eq_true rfl) dX5_doWaysAgree_31 ⟨Nat.le_of_ble_eq_true rfl, Nat.le_of_ble_eq_true rfl⟩) hI (fun H locs hI => ?_)
          refine lv_aload_n hx hb dX5_doWaysAgree_34 rfl (lv_at hl 0 rfl) ?_
          refine q_get hx hb hg in_X5 hown hK hI hL0.1 rfl 0 (by decide) (hg _ wf_X5_12) (fun _ h9 => h9) rfl dX5_doWaysAgree_35 ?_
          refine lv_iload_n hx hb dX5_doWaysAgree_38 rfl (lv_at hl 1 rfl) ?_
          refine q_goR (q_runV (As := [.int x1h2]) (rest := [.int (s_X5_rootByTops v x1h2)]) hx hb hml hown hg (c_X1_rootByHolders l D cs hL0.2.1 x1h2) v_X1_rootByHolders wl_X5_81 rfl rfl ⟨Nat.le_of_ble_eq_true rfl, Nat.le_of_ble_eq_true rfl⟩ hI hK 2 hL0.2.1.1 rfl hl.1 rfl rfl (Nat.le_of_ble_eq_true rfl) dX5_doWaysAgree_39 ⟨Nat.le_of_ble_eq_true rfl, Nat.le_of_ble_eq_true rfl⟩) hI (fun H locs hI => ?_)
          refine lv_icmp_eq (tgt := 47) hx hb dX5_doWaysAgree_42 (by decide) (fun c3 => ?_) (fun c3 => ?_)
          · rw [if_pos c3] at hR
            refine lv_iconst (v := 0) hx hb dX5_doWaysAgree_47 (by decide) ?_
            refine lv_istore_n (lv' := [(2, .int 0), (0, .ref a), (1, .int x1h2)]) hx hb dX5_doWaysAgree_48 rfl hl (by decide) rfl (fun ls hl => ?_)
            have loop49 : ∀ (n49 : Nat) (x2h49 : Int32), qmu v.1.2.2 x2h49 < n49 → s_X5_doWaysAgree_L49 v x1h2 (s_X5_doWaysAgree_L2 v n2) n49 x2h49 = R → ∀ (H : Heap) (locs : List Loc) (ls : Array Slot), qI D M0 s.heap M0 N H locs → lv_has ls 3 [(0, .ref a), (1, .int x1h2), (2, .int x2h49)] →
                W p l e ({ frames := 6, cells := 0, slots := 0, locals := 142 } : Room) s m [Value.ref a].toArray below meth c H locs 0 0 (MQ below (qQ D M0 N (qRet M0 N (.int (qbi R)))) [Value.ref a].toArray s 0 0 (qA M0 N)) (F0 m 49 ls []) := by
              intro n49
              induction n49 with
              | zero => intro x2h49 hm; exact absurd hm (Nat.not_lt_zero _)
              | succ n49 ih49 =>
                intro x2h49 hm49 hR H locs ls  hI hl
                rw [s_X5_doWaysAgree_L49] at hR
                refine lv_iload_n hx hb dX5_doWaysAgree_49 rfl (lv_at hl 2 rfl) ?_
                refine lv_aload_n hx hb dX5_doWaysAgree_50 rfl (lv_at hl 0 rfl) ?_
                refine q_get hx hb hg in_X5 hown hK hI hL0.1 rfl 0 (by decide) (hg _ wf_X5_12) (fun _ h9 => h9) rfl dX5_doWaysAgree_51 ?_
                refine q_getN hx hb hg in_X1 hown hK hI hL0.2.1.1 rfl 2 (by decide) (hK.2 _ (List.mem_of_getElem? (i := 3) rfl)) (fun _ h9 => h9) rfl dX5_doWaysAgree_54 ?_
                refine lv_icmp_ge (tgt := 86) hx hb dX5_doWaysAgree_57 (by decide) (fun c4 => ?_) (fun c4 => ?_)
                · rw [if_pos c4] at hR
                  refine lv_iinc (v := x1h2 + 1) (lv' := [(1, .int (x1h2 + 1)), (0, .ref a), (2, .int x2h49)]) hx hb dX5_doWaysAgree_86 hl (k := 1) rfl rfl (by decide) rfl (fun ls hl => ?_)
                  refine lv_goto (tgt := 2) hx hb dX5_doWaysAgree_89 (by decide) ?_
                  exact ih2 (x1h2 + 1) (q_mu c1 hm2) hR _ _ _  hI (lv_sub hl [1, 0] rfl)
                · rw [if_neg c4] at hR
                  refine lv_aload_n hx hb dX5_doWaysAgree_60 rfl (lv_at hl 0 rfl) ?_
                  refine lv_iload_n hx hb dX5_doWaysAgree_61 rfl (lv_at hl 1 rfl) ?_
                  refine lv_iload_n hx hb dX5_doWaysAgree_62 rfl (lv_at hl 2 rfl) ?_
                  refine q_goR (q_runV (As := [.int x1h2, .int x2h49]) (rest := []) hx hb hml hown hg (c_X5_jointByRopes l D cs hL0 x1h2 x2h49) v_X5_jointByRopes wl_X5_171 rfl rfl ⟨Nat.le_of_ble_eq_true rfl, Nat.le_of_ble_eq_true rfl⟩ hI hK 6 hL0.1 rfl hl.1 rfl rfl (Nat.le_of_ble_eq_true rfl) dX5_doWaysAgree_63 ⟨Nat.le_of_ble_eq_true rfl, Nat.le_of_ble_eq_true rfl⟩) hI (fun H locs hI => ?_)
                  refine lv_aload_n hx hb dX5_doWaysAgree_66 rfl (lv_at hl 0 rfl) ?_
                  refine q_get hx hb hg in_X5 hown hK hI hL0.1 rfl 0 (by decide) (hg _ wf_X5_12) (fun _ h9 => h9) rfl dX5_doWaysAgree_67 ?_
                  refine lv_iload_n hx hb dX5_doWaysAgree_70 rfl (lv_at hl 1 rfl) ?_
                  refine lv_iload_n hx hb dX5_doWaysAgree_71 rfl (lv_at hl 2 rfl) ?_
                  refine q_goR (q_runV (As := [.int x1h2, .int x2h49]) (rest := [.int (s_X5_jointByRopes v x1h2 x2h49)]) hx hb hml hown hg (c_X1_jointByHolders l D cs hL0.2.1 x1h2 x2h49) v_X1_jointByHolders wl_X5_174 rfl rfl ⟨Nat.le_of_ble_eq_true rfl, Nat.le_of_ble_eq_true rfl⟩ hI hK 2 hL0.2.1.1 rfl hl.1 rfl rfl (Nat.le_of_ble_eq_true rfl) dX5_doWaysAgree_72 ⟨Nat.le_of_ble_eq_true rfl, Nat.le_of_ble_eq_true rfl⟩) hI (fun H locs hI => ?_)
                  refine lv_icmp_eq (tgt := 80) hx hb dX5_doWaysAgree_75 (by decide) (fun c5 => ?_) (fun c5 => ?_)
                  · rw [if_pos c5] at hR
                    refine lv_iinc (v := x2h49 + 1) (lv' := [(2, .int (x2h49 + 1)), (0, .ref a), (1, .int x1h2)]) hx hb dX5_doWaysAgree_80 hl (k := 2) rfl rfl (by decide) rfl (fun ls hl => ?_)
                    refine lv_goto (tgt := 49) hx hb dX5_doWaysAgree_83 (by decide) ?_
                    exact ih49 (x2h49 + 1) (q_mu c4 hm49) hR _ _ _  hI (lv_sub hl [1, 2, 0] rfl)
                  · rw [if_neg c5] at hR
                    refine lv_iconst (v := 0) hx hb dX5_doWaysAgree_78 (by decide) ?_
                    exact q_zret hx hb hret rfl hlk hN hI (by subst hR; exact ⟨rfl, rfl, rfl⟩) dX5_doWaysAgree_79
            exact loop49 _ 0 (q_fuel _) hR _ _ _  hI (lv_sub hl [1, 2, 0] rfl)
          · rw [if_neg c3] at hR
            refine lv_iconst (v := 0) hx hb dX5_doWaysAgree_45 (by decide) ?_
            exact q_zret hx hb hret rfl hlk hN hI (by subst hR; exact ⟨rfl, rfl, rfl⟩) dX5_doWaysAgree_46
  exact loop2 _ 0 (q_fuel _) hR _ _ _  hI (lv_sub hl [1, 0] rfl)
def s_X5_timesOnRopes_L37 (v : qQV) (p1 : Int32) (x2h4 : Int32) (x3h4 : Int32) (K4 : Int32 → Int32 → Int32) : Nat → Int32 → Int32 → Int32 → Int32
  | 0, _, _, _ => default
  | n + 1, x2h37, x4h37, x5h37 => (if 16 ≤ x5h37 then (K4 x2h37 (x3h4 + 1)) else (if x4h37 < 0 then (K4 x2h37 (x3h4 + 1)) else (if x4h37 = p1 then (s_X5_timesOnRopes_L37 v p1 x2h4 x3h4 K4 n (x2h37 + 1) (s_X8_behind v.2.1 x4h37) (x5h37 + 1)) else (s_X5_timesOnRopes_L37 v p1 x2h4 x3h4 K4 n (x2h37 + 0) (s_X8_behind v.2.1 x4h37) (x5h37 + 1)))))
def s_X5_timesOnRopes_L4 (v : qQV) (p1 : Int32) : Nat → Int32 → Int32 → Int32
  | 0, _, _ => default
  | n + 1, x2h4, x3h4 => (if v.1.2.2 ≤ x3h4 then x2h4 else (if (s_X8_topOf v.2.1 x3h4) = x3h4 then (s_X5_timesOnRopes_L37 v p1 x2h4 x3h4 (s_X5_timesOnRopes_L4 v p1 n) ((16 : Int32).toInt.toNat + 1) x2h4 x3h4 0) else (s_X5_timesOnRopes_L37 v p1 x2h4 x3h4 (s_X5_timesOnRopes_L4 v p1 n) ((16 : Int32).toInt.toNat + 1) x2h4 (-1) 0)))
def s_X5_timesOnRopes (v : qQV) (p1 : Int32) : Int32 := (s_X5_timesOnRopes_L4 v p1 (v.1.2.2.toInt.toNat + 1) 0 0)
set_option maxHeartbeats 4000000 in
set_option maxRecDepth 20000 in
theorem c_X5_timesOnRopes (l : Launch) (D : va_G) (cs : qC) {M0 : qM} {N a : Nat} {v : qQV} (hL0 : qLQ cs M0 a v) (p1 : Int32) :
    qMet l D cs yX5_timesOnRopes (qws yX5_timesOnRopes cX5_timesOnRopes 6 (some .int)) ({ frames := 4, cells := 0, slots := 0, locals := 92 } : Room) M0 N [.ref a, .int p1] (qRet M0 N (.int (s_X5_timesOnRopes v p1))) 0 0 := by
  obtain ⟨R, hR⟩ : ∃ R, s_X5_timesOnRopes v p1 = R := ⟨_, rfl⟩
  rw [hR]
  rw [s_X5_timesOnRopes] at hR
  refine q_head (by decide +kernel) ?_ (Nat.le_of_ble_eq_true rfl)
  intro p e s m below meth c ls hx hb hret hlk hml hown hnm hg hK hN hI hl
  have hl : lv_has ls 6 [(0, .ref a), (1, .int p1)] := hl
  refine lv_iconst (v := 0) hx hb dX5_timesOnRopes_0 (by decide) ?_
  refine lv_istore_n (lv' := [(2, .int 0), (0, .ref a), (1, .int p1)]) hx hb dX5_timesOnRopes_1 rfl hl (by decide) rfl (fun ls hl => ?_)
  refine lv_iconst (v := 0) hx hb dX5_timesOnRopes_2 (by decide) ?_
  refine lv_istore_n (lv' := [(3, .int 0), (2, .int 0), (0, .ref a), (1, .int p1)]) hx hb dX5_timesOnRopes_3 rfl hl (by decide) rfl (fun ls hl => ?_)
  have loop4 : ∀ (n4 : Nat) (x2h4 : Int32) (x3h4 : Int32), qmu v.1.2.2 x3h4 < n4 → s_X5_timesOnRopes_L4 v p1 n4 x2h4 x3h4 = R → ∀ (H : Heap) (locs : List Loc) (ls : Array Slot), qI D M0 s.heap M0 N H locs → lv_has ls 6 [(0, .ref a), (1, .int p1), (2, .int x2h4), (3, .int x3h4)] →
      W p l e ({ frames := 4, cells := 0, slots := 0, locals := 92 } : Room) s m [Value.ref a, Value.int p1].toArray below meth c H locs 0 0 (MQ below (qQ D M0 N (qRet M0 N (.int R))) [Value.ref a, Value.int p1].toArray s 0 0 (qA M0 N)) (F0 m 4 ls []) := by
    intro n4
    induction n4 with
    | zero => intro x2h4 x3h4 hm; exact absurd hm (Nat.not_lt_zero _)
    | succ n4 ih4 =>
      intro x2h4 x3h4 hm4 hR H locs ls  hI hl
      rw [s_X5_timesOnRopes_L4] at hR
      refine lv_iload_n hx hb dX5_timesOnRopes_4 rfl (lv_at hl 3 rfl) ?_
      refine lv_aload_n hx hb dX5_timesOnRopes_5 rfl (lv_at hl 0 rfl) ?_
      refine q_get hx hb hg in_X5 hown hK hI hL0.1 rfl 0 (by decide) (hg _ wf_X5_12) (fun _ h9 => h9) rfl dX5_timesOnRopes_6 ?_
      refine q_getN hx hb hg in_X1 hown hK hI hL0.2.1.1 rfl 2 (by decide) (hK.2 _ (List.mem_of_getElem? (i := 3) rfl)) (fun _ h9 => h9) rfl dX5_timesOnRopes_9 ?_
      refine lv_icmp_ge (tgt := 86) hx hb dX5_timesOnRopes_12 (by decide) (fun c1 => ?_) (fun c1 => ?_)
      · rw [if_pos c1] at hR
        refine lv_iload_n hx hb dX5_timesOnRopes_86 rfl (lv_at hl 2 rfl) ?_
        exact q_iret hx hb hret hlk hN hI (by subst hR; exact ⟨rfl, rfl, rfl⟩) dX5_timesOnRopes_87
      · rw [if_neg c1] at hR
        refine lv_aload_n hx hb dX5_timesOnRopes_15 rfl (lv_at hl 0 rfl) ?_
        refine q_get hx hb hg in_X5 hown hK hI hL0.1 rfl 1 (by decide) (hg _ wf_X5_21) (fun _ h9 => h9) rfl dX5_timesOnRopes_16 ?_
        refine lv_iload_n hx hb dX5_timesOnRopes_19 rfl (lv_at hl 3 rfl) ?_
        refine q_goR (q_runV (As := [.int x3h4]) (rest := []) hx hb hml hown hg (c_X8_topOf l D cs hL0.2.2.1 x3h4) v_X8_topOf wl_X5_137 rfl rfl ⟨Nat.le_of_ble_eq_true rfl, Nat.le_of_ble_eq_true rfl⟩ hI hK 9 hL0.2.2.1.1 rfl hl.1 rfl rfl (Nat.le_of_ble_eq_true rfl) dX5_timesOnRopes_20 ⟨Nat.le_of_ble_eq_true rfl, Nat.le_of_ble_eq_true rfl⟩) hI (fun H locs hI => ?_)
        refine lv_iload_n hx hb dX5_timesOnRopes_23 rfl (lv_at hl 3 rfl) ?_
        refine lv_icmp_ne (tgt := 31) hx hb dX5_timesOnRopes_24 (by decide) (fun c2 => ?_) (fun c2 => ?_)
        · rw [if_neg c2] at hR
          refine lv_iconst (v := (-1)) hx hb dX5_timesOnRopes_31 (by decide) ?_
          refine lv_istore (lv' := [(4, .int (-1)), (0, .ref a), (1, .int p1), (2, .int x2h4), (3, .int x3h4)]) hx hb dX5_timesOnRopes_32 hl (by decide) rfl (fun ls hl => ?_)
          refine lv_iconst (v := 0) hx hb dX5_timesOnRopes_34 (by decide) ?_
          refine lv_istore (lv' := [(5, .int 0), (4, .int (-1)), (0, .ref a), (1, .int p1), (2, .int x2h4), (3, .int x3h4)]) hx hb dX5_timesOnRopes_35 hl (by decide) rfl (fun ls hl => ?_)
          have loop37 : ∀ (n37 : Nat) (x2h37 : Int32) (x4h37 : Int32) (x5h37 : Int32), qmu 16 x5h37 < n37 → s_X5_timesOnRopes_L37 v p1 x2h4 x3h4 (s_X5_timesOnRopes_L4 v p1 n4) n37 x2h37 x4h37 x5h37 = R → ∀ (H : Heap) (locs : List Loc) (ls : Array Slot), qI D M0 s.heap M0 N H locs → lv_has ls 6 [(0, .ref a), (1, .int p1), (2, .int x2h37), (3, .int x3h4), (4, .int x4h37), (5, .int x5h37)] →
              W p l e ({ frames := 4, cells := 0, slots := 0, locals := 92 } : Room) s m [Value.ref a, Value.int p1].toArray below meth c H locs 0 0 (MQ below (qQ D M0 N (qRet M0 N (.int R))) [Value.ref a, Value.int p1].toArray s 0 0 (qA M0 N)) (F0 m 37 ls []) := by
            intro n37
            induction n37 with
            | zero => intro x2h37 x4h37 x5h37 hm; exact absurd hm (Nat.not_lt_zero _)
            | succ n37 ih37 =>
              intro x2h37 x4h37 x5h37 hm37 hR H locs ls  hI hl
              rw [s_X5_timesOnRopes_L37] at hR
              refine lv_iload hx hb dX5_timesOnRopes_37 (lv_at hl 5 rfl) ?_
              refine lv_bipush (v := 16) hx hb dX5_timesOnRopes_39 (by decide) ?_
              refine lv_icmp_ge (tgt := 80) hx hb dX5_timesOnRopes_41 (by decide) (fun c3 => ?_) (fun c3 => ?_)
              · rw [if_pos c3] at hR
                refine lv_iinc (v := x3h4 + 1) (lv' := [(3, .int (x3h4 + 1)), (0, .ref a), (1, .int p1), (2, .int x2h37), (4, .int x4h37), (5, .int x5h37)]) hx hb dX5_timesOnRopes_80 hl (k := 3) rfl rfl (by decide) rfl (fun ls hl => ?_)
                refine lv_goto (tgt := 4) hx hb dX5_timesOnRopes_83 (by decide) ?_
                exact ih4 x2h37 (x3h4 + 1) (q_mu c1 hm4) hR _ _ _  hI (lv_sub hl [1, 2, 3, 0] rfl)
              · rw [if_neg c3] at hR
                refine lv_iload hx hb dX5_timesOnRopes_44 (lv_at hl 4 rfl) ?_
                refine lv_if_lt (tgt := 80) hx hb dX5_timesOnRopes_46 (by decide) (fun c4 => ?_) (fun c4 => ?_)
                · rw [if_pos c4] at hR
                  refine lv_iinc (v := x3h4 + 1) (lv' := [(3, .int (x3h4 + 1)), (0, .ref a), (1, .int p1), (2, .int x2h37), (4, .int x4h37), (5, .int x5h37)]) hx hb dX5_timesOnRopes_80 hl (k := 3) rfl rfl (by decide) rfl (fun ls hl => ?_)
                  refine lv_goto (tgt := 4) hx hb dX5_timesOnRopes_83 (by decide) ?_
                  exact ih4 x2h37 (x3h4 + 1) (q_mu c1 hm4) hR _ _ _  hI (lv_sub hl [1, 2, 3, 0] rfl)
                · rw [if_neg c4] at hR
                  refine lv_iload_n hx hb dX5_timesOnRopes_49 rfl (lv_at hl 2 rfl) ?_
                  refine lv_iload hx hb dX5_timesOnRopes_50 (lv_at hl 4 rfl) ?_
                  refine lv_iload_n hx hb dX5_timesOnRopes_52 rfl (lv_at hl 1 rfl) ?_
                  refine lv_icmp_ne (tgt := 60) hx hb dX5_timesOnRopes_53 (by decide) (fun c5 => ?_) (fun c5 => ?_)
                  · rw [if_neg c5] at hR
                    refine lv_iconst (v := 0) hx hb dX5_timesOnRopes_60 (by decide) ?_
                    refine lv_iadd hx hb dX5_timesOnRopes_61 ?_
                    refine lv_istore_n (lv' := [(2, .int (x2h37 + 0)), (0, .ref a), (1, .int p1), (3, .int x3h4), (4, .int x4h37), (5, .int x5h37)]) hx hb dX5_timesOnRopes_62 rfl hl (by decide) rfl (fun ls hl => ?_)
                    refine lv_aload_n hx hb dX5_timesOnRopes_63 rfl (lv_at hl 1 rfl) ?_
                    refine q_get hx hb hg in_X5 hown hK hI hL0.1 rfl 1 (by decide) (hg _ wf_X5_21) (fun _ h9 => h9) rfl dX5_timesOnRopes_64 ?_
                    refine lv_iload hx hb dX5_timesOnRopes_67 (lv_at hl 4 rfl) ?_
                    refine q_goR (q_runV (As := [.int x4h37]) (rest := []) hx hb hml hown hg (c_X8_behind l D cs hL0.2.2.1 x4h37) v_X8_behind wl_X5_183 rfl rfl ⟨Nat.le_of_ble_eq_true rfl, Nat.le_of_ble_eq_true rfl⟩ hI hK 9 hL0.2.2.1.1 rfl hl.1 rfl rfl (Nat.le_of_ble_eq_true rfl) dX5_timesOnRopes_69 ⟨Nat.le_of_ble_eq_true rfl, Nat.le_of_ble_eq_true rfl⟩) hI (fun H locs hI => ?_)
                    refine lv_istore (lv' := [(4, .int (s_X8_behind v.2.1 x4h37)), (2, .int (x2h37 + 0)), (0, .ref a), (1, .int p1), (3, .int x3h4), (5, .int x5h37)]) hx hb dX5_timesOnRopes_72 hl (by decide) rfl (fun ls hl => ?_)
                    refine lv_iinc (v := x5h37 + 1) (lv' := [(5, .int (x5h37 + 1)), (4, .int (s_X8_behind v.2.1 x4h37)), (2, .int (x2h37 + 0)), (0, .ref a), (1, .int p1), (3, .int x3h4)]) hx hb dX5_timesOnRopes_74 hl (k := 5) rfl rfl (by decide) rfl (fun ls hl => ?_)
                    refine lv_goto (tgt := 37) hx hb dX5_timesOnRopes_77 (by decide) ?_
                    exact ih37 (x2h37 + 0) (s_X8_behind v.2.1 x4h37) (x5h37 + 1) (q_mu c3 hm37) hR _ _ _  hI (lv_sub hl [3, 4, 2, 5, 1, 0] rfl)
                  · rw [if_pos c5] at hR
                    refine lv_iconst (v := 1) hx hb dX5_timesOnRopes_56 (by decide) ?_
                    refine lv_goto (tgt := 61) hx hb dX5_timesOnRopes_57 (by decide) ?_
                    refine lv_iadd hx hb dX5_timesOnRopes_61 ?_
                    refine lv_istore_n (lv' := [(2, .int (x2h37 + 1)), (0, .ref a), (1, .int p1), (3, .int x3h4), (4, .int x4h37), (5, .int x5h37)]) hx hb dX5_timesOnRopes_62 rfl hl (by decide) rfl (fun ls hl => ?_)
                    refine lv_aload_n hx hb dX5_timesOnRopes_63 rfl (lv_at hl 1 rfl) ?_
                    refine q_get hx hb hg in_X5 hown hK hI hL0.1 rfl 1 (by decide) (hg _ wf_X5_21) (fun _ h9 => h9) rfl dX5_timesOnRopes_64 ?_
                    refine lv_iload hx hb dX5_timesOnRopes_67 (lv_at hl 4 rfl) ?_
                    refine q_goR (q_runV (As := [.int x4h37]) (rest := []) hx hb hml hown hg (c_X8_behind l D cs hL0.2.2.1 x4h37) v_X8_behind wl_X5_183 rfl rfl ⟨Nat.le_of_ble_eq_true rfl, Nat.le_of_ble_eq_true rfl⟩ hI hK 9 hL0.2.2.1.1 rfl hl.1 rfl rfl (Nat.le_of_ble_eq_true rfl) dX5_timesOnRopes_69 ⟨Nat.le_of_ble_eq_true rfl, Nat.le_of_ble_eq_true rfl⟩) hI (fun H locs hI => ?_)
                    refine lv_istore (lv' := [(4, .int (s_X8_behind v.2.1 x4h37)), (2, .int (x2h37 + 1)), (0, .ref a), (1, .int p1), (3, .int x3h4), (5, .int x5h37)]) hx hb dX5_timesOnRopes_72 hl (by decide) rfl (fun ls hl => ?_)
                    refine lv_iinc (v := x5h37 + 1) (lv' := [(5, .int (x5h37 + 1)), (4, .int (s_X8_behind v.2.1 x4h37)), (2, .int (x2h37 + 1)), (0, .ref a), (1, .int p1), (3, .int x3h4)]) hx hb dX5_timesOnRopes_74 hl (k := 5) rfl rfl (by decide) rfl (fun ls hl => ?_)
                    refine lv_goto (tgt := 37) hx hb dX5_timesOnRopes_77 (by decide) ?_
                    exact ih37 (x2h37 + 1) (s_X8_behind v.2.1 x4h37) (x5h37 + 1) (q_mu c3 hm37) hR _ _ _  hI (lv_sub hl [3, 4, 2, 5, 1, 0] rfl)
          exact loop37 _ x2h4 (-1) 0 (q_fuel _) hR _ _ _  hI (lv_sub hl [2, 3, 4, 5, 1, 0] rfl)
        · rw [if_pos c2] at hR
          refine lv_iload_n hx hb dX5_timesOnRopes_27 rfl (lv_at hl 3 rfl) ?_
          refine lv_goto (tgt := 32) hx hb dX5_timesOnRopes_28 (by decide) ?_
          refine lv_istore (lv' := [(4, .int x3h4), (0, .ref a), (1, .int p1), (2, .int x2h4), (3, .int x3h4)]) hx hb dX5_timesOnRopes_32 hl (by decide) rfl (fun ls hl => ?_)
          refine lv_iconst (v := 0) hx hb dX5_timesOnRopes_34 (by decide) ?_
          refine lv_istore (lv' := [(5, .int 0), (4, .int x3h4), (0, .ref a), (1, .int p1), (2, .int x2h4), (3, .int x3h4)]) hx hb dX5_timesOnRopes_35 hl (by decide) rfl (fun ls hl => ?_)
          have loop37 : ∀ (n37 : Nat) (x2h37 : Int32) (x4h37 : Int32) (x5h37 : Int32), qmu 16 x5h37 < n37 → s_X5_timesOnRopes_L37 v p1 x2h4 x3h4 (s_X5_timesOnRopes_L4 v p1 n4) n37 x2h37 x4h37 x5h37 = R → ∀ (H : Heap) (locs : List Loc) (ls : Array Slot), qI D M0 s.heap M0 N H locs → lv_has ls 6 [(0, .ref a), (1, .int p1), (2, .int x2h37), (3, .int x3h4), (4, .int x4h37), (5, .int x5h37)] →
              W p l e ({ frames := 4, cells := 0, slots := 0, locals := 92 } : Room) s m [Value.ref a, Value.int p1].toArray below meth c H locs 0 0 (MQ below (qQ D M0 N (qRet M0 N (.int R))) [Value.ref a, Value.int p1].toArray s 0 0 (qA M0 N)) (F0 m 37 ls []) := by
            intro n37
            induction n37 with
            | zero => intro x2h37 x4h37 x5h37 hm; exact absurd hm (Nat.not_lt_zero _)
            | succ n37 ih37 =>
              intro x2h37 x4h37 x5h37 hm37 hR H locs ls  hI hl
              rw [s_X5_timesOnRopes_L37] at hR
              refine lv_iload hx hb dX5_timesOnRopes_37 (lv_at hl 5 rfl) ?_
              refine lv_bipush (v := 16) hx hb dX5_timesOnRopes_39 (by decide) ?_
              refine lv_icmp_ge (tgt := 80) hx hb dX5_timesOnRopes_41 (by decide) (fun c6 => ?_) (fun c6 => ?_)
              · rw [if_pos c6] at hR
                refine lv_iinc (v := x3h4 + 1) (lv' := [(3, .int (x3h4 + 1)), (0, .ref a), (1, .int p1), (2, .int x2h37), (4, .int x4h37), (5, .int x5h37)]) hx hb dX5_timesOnRopes_80 hl (k := 3) rfl rfl (by decide) rfl (fun ls hl => ?_)
                refine lv_goto (tgt := 4) hx hb dX5_timesOnRopes_83 (by decide) ?_
                exact ih4 x2h37 (x3h4 + 1) (q_mu c1 hm4) hR _ _ _  hI (lv_sub hl [1, 2, 3, 0] rfl)
              · rw [if_neg c6] at hR
                refine lv_iload hx hb dX5_timesOnRopes_44 (lv_at hl 4 rfl) ?_
                refine lv_if_lt (tgt := 80) hx hb dX5_timesOnRopes_46 (by decide) (fun c7 => ?_) (fun c7 => ?_)
                · rw [if_pos c7] at hR
                  refine lv_iinc (v := x3h4 + 1) (lv' := [(3, .int (x3h4 + 1)), (0, .ref a), (1, .int p1), (2, .int x2h37), (4, .int x4h37), (5, .int x5h37)]) hx hb dX5_timesOnRopes_80 hl (k := 3) rfl rfl (by decide) rfl (fun ls hl => ?_)
                  refine lv_goto (tgt := 4) hx hb dX5_timesOnRopes_83 (by decide) ?_
                  exact ih4 x2h37 (x3h4 + 1) (q_mu c1 hm4) hR _ _ _  hI (lv_sub hl [1, 2, 3, 0] rfl)
                · rw [if_neg c7] at hR
                  refine lv_iload_n hx hb dX5_timesOnRopes_49 rfl (lv_at hl 2 rfl) ?_
                  refine lv_iload hx hb dX5_timesOnRopes_50 (lv_at hl 4 rfl) ?_
                  refine lv_iload_n hx hb dX5_timesOnRopes_52 rfl (lv_at hl 1 rfl) ?_
                  refine lv_icmp_ne (tgt := 60) hx hb dX5_timesOnRopes_53 (by decide) (fun c8 => ?_) (fun c8 => ?_)
                  · rw [if_neg c8] at hR
                    refine lv_iconst (v := 0) hx hb dX5_timesOnRopes_60 (by decide) ?_
                    refine lv_iadd hx hb dX5_timesOnRopes_61 ?_
                    refine lv_istore_n (lv' := [(2, .int (x2h37 + 0)), (0, .ref a), (1, .int p1), (3, .int x3h4), (4, .int x4h37), (5, .int x5h37)]) hx hb dX5_timesOnRopes_62 rfl hl (by decide) rfl (fun ls hl => ?_)
                    refine lv_aload_n hx hb dX5_timesOnRopes_63 rfl (lv_at hl 1 rfl) ?_
                    refine q_get hx hb hg in_X5 hown hK hI hL0.1 rfl 1 (by decide) (hg _ wf_X5_21) (fun _ h9 => h9) rfl dX5_timesOnRopes_64 ?_
                    refine lv_iload hx hb dX5_timesOnRopes_67 (lv_at hl 4 rfl) ?_
                    refine q_goR (q_runV (As := [.int x4h37]) (rest := []) hx hb hml hown hg (c_X8_behind l D cs hL0.2.2.1 x4h37) v_X8_behind wl_X5_183 rfl rfl ⟨Nat.le_of_ble_eq_true rfl, Nat.le_of_ble_eq_true rfl⟩ hI hK 9 hL0.2.2.1.1 rfl hl.1 rfl rfl (Nat.le_of_ble_eq_true rfl) dX5_timesOnRopes_69 ⟨Nat.le_of_ble_eq_true rfl, Nat.le_of_ble_eq_true rfl⟩) hI (fun H locs hI => ?_)
                    refine lv_istore (lv' := [(4, .int (s_X8_behind v.2.1 x4h37)), (2, .int (x2h37 + 0)), (0, .ref a), (1, .int p1), (3, .int x3h4), (5, .int x5h37)]) hx hb dX5_timesOnRopes_72 hl (by decide) rfl (fun ls hl => ?_)
                    refine lv_iinc (v := x5h37 + 1) (lv' := [(5, .int (x5h37 + 1)), (4, .int (s_X8_behind v.2.1 x4h37)), (2, .int (x2h37 + 0)), (0, .ref a), (1, .int p1), (3, .int x3h4)]) hx hb dX5_timesOnRopes_74 hl (k := 5) rfl rfl (by decide) rfl (fun ls hl => ?_)
                    refine lv_goto (tgt := 37) hx hb dX5_timesOnRopes_77 (by decide) ?_
                    exact ih37 (x2h37 + 0) (s_X8_behind v.2.1 x4h37) (x5h37 + 1) (q_mu c6 hm37) hR _ _ _  hI (lv_sub hl [3, 4, 2, 5, 1, 0] rfl)
                  · rw [if_pos c8] at hR
                    refine lv_iconst (v := 1) hx hb dX5_timesOnRopes_56 (by decide) ?_
                    refine lv_goto (tgt := 61) hx hb dX5_timesOnRopes_57 (by decide) ?_
                    refine lv_iadd hx hb dX5_timesOnRopes_61 ?_
                    refine lv_istore_n (lv' := [(2, .int (x2h37 + 1)), (0, .ref a), (1, .int p1), (3, .int x3h4), (4, .int x4h37), (5, .int x5h37)]) hx hb dX5_timesOnRopes_62 rfl hl (by decide) rfl (fun ls hl => ?_)
                    refine lv_aload_n hx hb dX5_timesOnRopes_63 rfl (lv_at hl 1 rfl) ?_
                    refine q_get hx hb hg in_X5 hown hK hI hL0.1 rfl 1 (by decide) (hg _ wf_X5_21) (fun _ h9 => h9) rfl dX5_timesOnRopes_64 ?_
                    refine lv_iload hx hb dX5_timesOnRopes_67 (lv_at hl 4 rfl) ?_
                    refine q_goR (q_runV (As := [.int x4h37]) (rest := []) hx hb hml hown hg (c_X8_behind l D cs hL0.2.2.1 x4h37) v_X8_behind wl_X5_183 rfl rfl ⟨Nat.le_of_ble_eq_true rfl, Nat.le_of_ble_eq_true rfl⟩ hI hK 9 hL0.2.2.1.1 rfl hl.1 rfl rfl (Nat.le_of_ble_eq_true rfl) dX5_timesOnRopes_69 ⟨Nat.le_of_ble_eq_true rfl, Nat.le_of_ble_eq_true rfl⟩) hI (fun H locs hI => ?_)
                    refine lv_istore (lv' := [(4, .int (s_X8_behind v.2.1 x4h37)), (2, .int (x2h37 + 1)), (0, .ref a), (1, .int p1), (3, .int x3h4), (5, .int x5h37)]) hx hb dX5_timesOnRopes_72 hl (by decide) rfl (fun ls hl => ?_)
                    refine lv_iinc (v := x5h37 + 1) (lv' := [(5, .int (x5h37 + 1)), (4, .int (s_X8_behind v.2.1 x4h37)), (2, .int (x2h37 + 1)), (0, .ref a), (1, .int p1), (3, .int x3h4)]) hx hb dX5_timesOnRopes_74 hl (k := 5) rfl rfl (by decide) rfl (fun ls hl => ?_)
                    refine lv_goto (tgt := 37) hx hb dX5_timesOnRopes_77 (by decide) ?_
                    exact ih37 (x2h37 + 1) (s_X8_behind v.2.1 x4h37) (x5h37 + 1) (q_mu c6 hm37) hR _ _ _  hI (lv_sub hl [3, 4, 2, 5, 1, 0] rfl)
          exact loop37 _ x2h4 x3h4 0 (q_fuel _) hR _ _ _  hI (lv_sub hl [2, 3, 4, 5, 1, 0] rfl)
  exact loop4 _ 0 0 (q_fuel _) hR _ _ _  hI (lv_sub hl [2, 3, 1, 0] rfl)
def s_X5_areRopesWell_L2 (v : qQV) : Nat → Int32 → Bool
  | 0, _ => default
  | n + 1, x1h2 => (if v.1.2.2 ≤ x1h2 then true else (if (s_X8_ahead v.2.1 x1h2) < 0 then (if (s_X5_timesOnRopes v x1h2) = 1 then (s_X5_areRopesWell_L2 v n (x1h2 + 1)) else false) else (if (s_X1_holderOf v.1 x1h2) = (s_X8_ahead v.2.1 x1h2) then (if (s_X5_timesOnRopes v x1h2) = 1 then (s_X5_areRopesWell_L2 v n (x1h2 + 1)) else false) else false)))
def s_X5_areRopesWell (v : qQV)  : Bool := (s_X5_areRopesWell_L2 v (v.1.2.2.toInt.toNat + 1) 0)
set_option maxHeartbeats 4000000 in
set_option maxRecDepth 20000 in
theorem c_X5_areRopesWell (l : Launch) (D : va_G) (cs : qC) {M0 : qM} {N a : Nat} {v : qQV} (hL0 : qLQ cs M0 a v) :
    qMet l D cs yX5_areRopesWell (qws yX5_areRopesWell cX5_areRopesWell 3 (some .boolean)) ({ frames := 5, cells := 0, slots := 0, locals := 117 } : Room) M0 N [.ref a] (qRet M0 N (.int (qbi (s_X5_areRopesWell v)))) 0 0 := by
  obtain ⟨R, hR⟩ : ∃ R, s_X5_areRopesWell v = R := ⟨_, rfl⟩
  rw [hR]
  rw [s_X5_areRopesWell] at hR
  refine q_head (by decide +kernel) ?_ (Nat.le_of_ble_eq_true rfl)
  intro p e s m below meth c ls hx hb hret hlk hml hown hnm hg hK hN hI hl
  have hl : lv_has ls 3 [(0, .ref a)] := hl
  refine lv_iconst (v := 0) hx hb dX5_areRopesWell_0 (by decide) ?_
  refine lv_istore_n (lv' := [(1, .int 0), (0, .ref a)]) hx hb dX5_areRopesWell_1 rfl hl (by decide) rfl (fun ls hl => ?_)
  have loop2 : ∀ (n2 : Nat) (x1h2 : Int32), qmu v.1.2.2 x1h2 < n2 → s_X5_areRopesWell_L2 v n2 x1h2 = R → ∀ (H : Heap) (locs : List Loc) (ls : Array Slot), qI D M0 s.heap M0 N H locs → lv_has ls 3 [(0, .ref a), (1, .int x1h2)] →
      W p l e ({ frames := 5, cells := 0, slots := 0, locals := 117 } : Room) s m [Value.ref a].toArray below meth c H locs 0 0 (MQ below (qQ D M0 N (qRet M0 N (.int (qbi R)))) [Value.ref a].toArray s 0 0 (qA M0 N)) (F0 m 2 ls []) := by
    intro n2
    induction n2 with
    | zero => intro x1h2 hm; exact absurd hm (Nat.not_lt_zero _)
    | succ n2 ih2 =>
      intro x1h2 hm2 hR H locs ls  hI hl
      rw [s_X5_areRopesWell_L2] at hR
      refine lv_iload_n hx hb dX5_areRopesWell_2 rfl (lv_at hl 1 rfl) ?_
      refine lv_aload_n hx hb dX5_areRopesWell_3 rfl (lv_at hl 0 rfl) ?_
      refine q_get hx hb hg in_X5 hown hK hI hL0.1 rfl 0 (by decide) (hg _ wf_X5_12) (fun _ h9 => h9) rfl dX5_areRopesWell_4 ?_
      refine q_getN hx hb hg in_X1 hown hK hI hL0.2.1.1 rfl 2 (by decide) (hK.2 _ (List.mem_of_getElem? (i := 3) rfl)) (fun _ h9 => h9) rfl dX5_areRopesWell_7 ?_
      refine lv_icmp_ge (tgt := 57) hx hb dX5_areRopesWell_10 (by decide) (fun c1 => ?_) (fun c1 => ?_)
      · rw [if_pos c1] at hR
        refine lv_iconst (v := 1) hx hb dX5_areRopesWell_57 (by decide) ?_
        exact q_zret hx hb hret rfl hlk hN hI (by subst hR; exact ⟨rfl, rfl, rfl⟩) dX5_areRopesWell_58
      · rw [if_neg c1] at hR
        refine lv_aload_n hx hb dX5_areRopesWell_13 rfl (lv_at hl 0 rfl) ?_
        refine q_get hx hb hg in_X5 hown hK hI hL0.1 rfl 1 (by decide) (hg _ wf_X5_21) (fun _ h9 => h9) rfl dX5_areRopesWell_14 ?_
        refine lv_iload_n hx hb dX5_areRopesWell_17 rfl (lv_at hl 1 rfl) ?_
        refine q_goR (q_runV (As := [.int x1h2]) (rest := []) hx hb hml hown hg (c_X8_ahead l D cs hL0.2.2.1 x1h2) v_X8_ahead wl_X5_177 rfl rfl ⟨Nat.le_of_ble_eq_true rfl, Nat.le_of_ble_eq_true rfl⟩ hI hK 9 hL0.2.2.1.1 rfl hl.1 rfl rfl (Nat.le_of_ble_eq_true rfl) dX5_areRopesWell_18 ⟨Nat.le_of_ble_eq_true rfl, Nat.le_of_ble_eq_true rfl⟩) hI (fun H locs hI => ?_)
        refine lv_istore_n (lv' := [(2, .int (s_X8_ahead v.2.1 x1h2)), (0, .ref a), (1, .int x1h2)]) hx hb dX5_areRopesWell_21 rfl hl (by decide) rfl (fun ls hl => ?_)
        refine lv_iload_n hx hb dX5_areRopesWell_22 rfl (lv_at hl 0 rfl) ?_
        refine lv_if_lt (tgt := 40) hx hb dX5_areRopesWell_23 (by decide) (fun c2 => ?_) (fun c2 => ?_)
        · rw [if_pos c2] at hR
          refine lv_aload_n hx hb dX5_areRopesWell_40 rfl (lv_at hl 1 rfl) ?_
          refine lv_iload_n hx hb dX5_areRopesWell_41 rfl (lv_at hl 2 rfl) ?_
          refine q_goR (q_runV (As := [.int x1h2]) (rest := []) hx hb hml hown hg (c_X5_timesOnRopes l D cs hL0 x1h2) v_X5_timesOnRopes wl_X5_180 rfl rfl ⟨Nat.le_of_ble_eq_true rfl, Nat.le_of_ble_eq_true rfl⟩ hI hK 6 hL0.1 rfl hl.1 rfl rfl (Nat.le_of_ble_eq_true rfl) dX5_areRopesWell_42 ⟨Nat.le_of_ble_eq_true rfl, Nat.le_of_ble_eq_true rfl⟩) hI (fun H locs hI => ?_)
          refine lv_iconst (v := 1) hx hb dX5_areRopesWell_45 (by decide) ?_
          refine lv_icmp_eq (tgt := 51) hx hb dX5_areRopesWell_46 (by decide) (fun c3 => ?_) (fun c3 => ?_)
          · rw [if_pos c3] at hR
            refine lv_iinc (v := x1h2 + 1) (lv' := [(1, .int (x1h2 + 1)), (2, .int (s_X8_ahead v.2.1 x1h2)), (0, .ref a)]) hx hb dX5_areRopesWell_51 hl (k := 2) rfl rfl (by decide) rfl (fun ls hl => ?_)
            refine lv_goto (tgt := 2) hx hb dX5_areRopesWell_54 (by decide) ?_
            exact ih2 (x1h2 + 1) (q_mu c1 hm2) hR _ _ _  hI (lv_sub hl [2, 0] rfl)
          · rw [if_neg c3] at hR
            refine lv_iconst (v := 0) hx hb dX5_areRopesWell_49 (by decide) ?_
            exact q_zret hx hb hret rfl hlk hN hI (by subst hR; exact ⟨rfl, rfl, rfl⟩) dX5_areRopesWell_50
        · rw [if_neg c2] at hR
          refine lv_aload_n hx hb dX5_areRopesWell_26 rfl (lv_at hl 1 rfl) ?_
          refine q_get hx hb hg in_X5 hown hK hI hL0.1 rfl 0 (by decide) (hg _ wf_X5_12) (fun _ h9 => h9) rfl dX5_areRopesWell_27 ?_
          refine lv_iload_n hx hb dX5_areRopesWell_30 rfl (lv_at hl 2 rfl) ?_
          refine q_goR (q_runV (As := [.int x1h2]) (rest := []) hx hb hml hown hg (c_X1_holderOf l D cs hL0.2.1 x1h2) v_X1_holderOf wl_X5_78 rfl rfl ⟨Nat.le_of_ble_eq_true rfl, Nat.le_of_ble_eq_true rfl⟩ hI hK 2 hL0.2.1.1 rfl hl.1 rfl rfl (Nat.le_of_ble_eq_true rfl) dX5_areRopesWell_31 ⟨Nat.le_of_ble_eq_true rfl, Nat.le_of_ble_eq_true rfl⟩) hI (fun H locs hI => ?_)
          refine lv_iload_n hx hb dX5_areRopesWell_34 rfl (lv_at hl 0 rfl) ?_
          refine lv_icmp_eq (tgt := 40) hx hb dX5_areRopesWell_35 (by decide) (fun c4 => ?_) (fun c4 => ?_)
          · rw [if_pos c4] at hR
            refine lv_aload_n hx hb dX5_areRopesWell_40 rfl (lv_at hl 1 rfl) ?_
            refine lv_iload_n hx hb dX5_areRopesWell_41 rfl (lv_at hl 2 rfl) ?_
            refine q_goR (q_runV (As := [.int x1h2]) (rest := []) hx hb hml hown hg (c_X5_timesOnRopes l D cs hL0 x1h2) v_X5_timesOnRopes wl_X5_180 rfl rfl ⟨Nat.le_of_ble_eq_true rfl, Nat.le_of_ble_eq_true rfl⟩ hI hK 6 hL0.1 rfl hl.1 rfl rfl (Nat.le_of_ble_eq_true rfl) dX5_areRopesWell_42 ⟨Nat.le_of_ble_eq_true rfl, Nat.le_of_ble_eq_true rfl⟩) hI (fun H locs hI => ?_)
            refine lv_iconst (v := 1) hx hb dX5_areRopesWell_45 (by decide) ?_
            refine lv_icmp_eq (tgt := 51) hx hb dX5_areRopesWell_46 (by decide) (fun c5 => ?_) (fun c5 => ?_)
            · rw [if_pos c5] at hR
              refine lv_iinc (v := x1h2 + 1) (lv' := [(1, .int (x1h2 + 1)), (2, .int (s_X8_ahead v.2.1 x1h2)), (0, .ref a)]) hx hb dX5_areRopesWell_51 hl (k := 2) rfl rfl (by decide) rfl (fun ls hl => ?_)
              refine lv_goto (tgt := 2) hx hb dX5_areRopesWell_54 (by decide) ?_
              exact ih2 (x1h2 + 1) (q_mu c1 hm2) hR _ _ _  hI (lv_sub hl [2, 0] rfl)
            · rw [if_neg c5] at hR
              refine lv_iconst (v := 0) hx hb dX5_areRopesWell_49 (by decide) ?_
              exact q_zret hx hb hret rfl hlk hN hI (by subst hR; exact ⟨rfl, rfl, rfl⟩) dX5_areRopesWell_50
          · rw [if_neg c4] at hR
            refine lv_iconst (v := 0) hx hb dX5_areRopesWell_38 (by decide) ?_
            exact q_zret hx hb hret rfl hlk hN hI (by subst hR; exact ⟨rfl, rfl, rfl⟩) dX5_areRopesWell_39
  exact loop2 _ 0 (q_fuel _) hR _ _ _  hI (lv_sub hl [1, 0] rfl)
