theorem q_nbi (b : Bool) : narrow .boolean (.int (qbi b)) = .int (qbi b) := by cases b <;> rfl
theorem q_tbl {x : Int32} {n : Nat} (hn : n < 2 ^ 31) (h : ∀ j : Nat, j ≤ n → ¬ x = nI j) : x.toInt < 0 ∨ (n : Int) < x.toInt := by
  rcases Int.lt_or_le x.toInt 0 with h0 | h0
  · exact Or.inl h0
  · rcases Int.lt_or_le (n : Int) x.toInt with h1 | h1
    · exact Or.inr h1
    · refine absurd ?_ (h x.toInt.toNat (by omega))
      rw [← Int32.toInt_inj, nI_toInt (by omega)]
      omega
def s_X10_lastAlong_L4 (L : List Int32) (p1 : Int32) : Nat → Int32 → Int32 → Int32
  | 0, _, _ => default
  | n + 1, x2h4, x3h4 => (if 16 ≤ x3h4 then x2h4 else (if (rowAt L x2h4) < 0 then x2h4 else (s_X10_lastAlong_L4 L p1 n (rowAt L x2h4) (x3h4 + 1))))
def s_X10_lastAlong (L : List Int32) (p1 : Int32) : Int32 := (s_X10_lastAlong_L4 L p1 ((16 : Int32).toInt.toNat + 1) p1 0)
set_option maxHeartbeats 4000000 in
set_option maxRecDepth 20000 in
theorem c_X10_lastAlong (l : Launch) (D : va_G) (cs : qC) {M0 : qM} {N r k : Nat} {L : List Int32} (hL0 : qRow cs M0 r L k) (p1 : Int32) :
    qMet l D cs yX10_lastAlong (qws yX10_lastAlong cX10_lastAlong 4 (some .int)) ({ frames := 1, cells := 0, slots := 0, locals := 21 } : Room) M0 N [.ref r, .int p1] (qRet M0 N (.int (s_X10_lastAlong L p1))) 0 0 := by
  obtain ⟨R, hR⟩ : ∃ R, s_X10_lastAlong L p1 = R := ⟨_, rfl⟩
  rw [hR]
  rw [s_X10_lastAlong] at hR
  refine q_head (by decide +kernel) ?_ (Nat.le_of_ble_eq_true rfl)
  intro p e s m below meth c ls hx hb hret hlk hml hown hnm hg hK hN hI hl
  have hl : lv_has ls 4 [(0, .ref r), (1, .int p1)] := hl
  refine lv_iload_n hx hb dX10_lastAlong_0 rfl (lv_at hl 1 rfl) ?_
  refine lv_istore_n (lv' := [(2, .int p1), (0, .ref r), (1, .int p1)]) hx hb dX10_lastAlong_1 rfl hl (by decide) rfl (fun ls hl => ?_)
  refine lv_iconst (v := 0) hx hb dX10_lastAlong_2 (by decide) ?_
  refine lv_istore_n (lv' := [(3, .int 0), (2, .int p1), (0, .ref r), (1, .int p1)]) hx hb dX10_lastAlong_3 rfl hl (by decide) rfl (fun ls hl => ?_)
  have loop4 : ∀ (n4 : Nat) (x2h4 : Int32) (x3h4 : Int32), qmu 16 x3h4 < n4 → s_X10_lastAlong_L4 L p1 n4 x2h4 x3h4 = R → ∀ (H : Heap) (locs : List Loc) (ls : Array Slot), qI D M0 s.heap M0 N H locs → lv_has ls 4 [(0, .ref r), (1, .int p1), (2, .int x2h4), (3, .int x3h4)] →
      W p l e ({ frames := 1, cells := 0, slots := 0, locals := 21 } : Room) s m [Value.ref r, Value.int p1].toArray below meth c H locs 0 0 (MQ below (qQ D M0 N (qRet M0 N (.int R))) [Value.ref r, Value.int p1].toArray s 0 0 (qA M0 N)) (F0 m 4 ls []) := by
    intro n4
    induction n4 with
    | zero => intro x2h4 x3h4 hm; exact absurd hm (Nat.not_lt_zero _)
    | succ n4 ih4 =>
      intro x2h4 x3h4 hm4 hR H locs ls  hI hl
      rw [s_X10_lastAlong_L4] at hR
      refine lv_iload_n hx hb dX10_lastAlong_4 rfl (lv_at hl 3 rfl) ?_
      refine lv_bipush (v := 16) hx hb dX10_lastAlong_5 (by decide) ?_
      refine lv_icmp_ge (tgt := 30) hx hb dX10_lastAlong_7 (by decide) (fun c1 => ?_) (fun c1 => ?_)
      · rw [if_pos c1] at hR
        refine lv_iload_n hx hb dX10_lastAlong_30 rfl (lv_at hl 2 rfl) ?_
        exact q_iret hx hb hret hlk hN hI (by subst hR; exact ⟨rfl, rfl, rfl⟩) dX10_lastAlong_31
      · rw [if_neg c1] at hR
        refine lv_aload_n hx hb dX10_lastAlong_10 rfl (lv_at hl 0 rfl) ?_
        refine lv_iload_n hx hb dX10_lastAlong_11 rfl (lv_at hl 2 rfl) ?_
        refine q_goR (q_runS (As := [.ref r, .int x2h4]) (rest := []) hx hb hml hown hg (c_X10_at l D cs hL0 x2h4) v_X10_at wl_X10_318 rfl rfl ⟨Nat.le_of_ble_eq_true rfl, Nat.le_of_ble_eq_true rfl⟩ hI hK hl.1 rfl rfl (Nat.le_of_ble_eq_true rfl) dX10_lastAlong_12 ⟨Nat.le_of_ble_eq_true rfl, Nat.le_of_ble_eq_true rfl⟩) hI (fun H locs hI => ?_)
        refine lv_if_lt (tgt := 30) hx hb dX10_lastAlong_15 (by decide) (fun c2 => ?_) (fun c2 => ?_)
        · rw [if_pos c2] at hR
          refine lv_iload_n hx hb dX10_lastAlong_30 rfl (lv_at hl 2 rfl) ?_
          exact q_iret hx hb hret hlk hN hI (by subst hR; exact ⟨rfl, rfl, rfl⟩) dX10_lastAlong_31
        · rw [if_neg c2] at hR
          refine lv_aload_n hx hb dX10_lastAlong_18 rfl (lv_at hl 0 rfl) ?_
          refine lv_iload_n hx hb dX10_lastAlong_19 rfl (lv_at hl 2 rfl) ?_
          refine q_goR (q_runS (As := [.ref r, .int x2h4]) (rest := []) hx hb hml hown hg (c_X10_at l D cs hL0 x2h4) v_X10_at wl_X10_318 rfl rfl ⟨Nat.le_of_ble_eq_true rfl, Nat.le_of_ble_eq_true rfl⟩ hI hK hl.1 rfl rfl (Nat.le_of_ble_eq_true rfl) dX10_lastAlong_20 ⟨Nat.le_of_ble_eq_true rfl, Nat.le_of_ble_eq_true rfl⟩) hI (fun H locs hI => ?_)
          refine lv_istore_n (lv' := [(2, .int (rowAt L x2h4)), (0, .ref r), (1, .int p1), (3, .int x3h4)]) hx hb dX10_lastAlong_23 rfl hl (by decide) rfl (fun ls hl => ?_)
          refine lv_iinc (v := x3h4 + 1) (lv' := [(3, .int (x3h4 + 1)), (2, .int (rowAt L x2h4)), (0, .ref r), (1, .int p1)]) hx hb dX10_lastAlong_24 hl (k := 3) rfl rfl (by decide) rfl (fun ls hl => ?_)
          refine lv_goto (tgt := 4) hx hb dX10_lastAlong_27 (by decide) ?_
          exact ih4 (rowAt L x2h4) (x3h4 + 1) (q_mu c1 hm4) hR _ _ _  hI (lv_sub hl [2, 3, 1, 0] rfl)
  exact loop4 _ p1 0 (q_fuel _) hR _ _ _  hI (lv_sub hl [2, 3, 1, 0] rfl)
def s_X10_stepsAlong_L8 (L : List Int32) (p1 : Int32) : Nat → Int32 → Int32 → Int32
  | 0, _, _ => default
  | n + 1, x2h8, x3h8 => (if 16 ≤ x2h8 then x2h8 else (if x3h8 < 0 then x2h8 else (s_X10_stepsAlong_L8 L p1 n (x2h8 + 1) (rowAt L x3h8))))
def s_X10_stepsAlong (L : List Int32) (p1 : Int32) : Int32 := (s_X10_stepsAlong_L8 L p1 ((16 : Int32).toInt.toNat + 1) 0 (rowAt L p1))
set_option maxHeartbeats 4000000 in
set_option maxRecDepth 20000 in
theorem c_X10_stepsAlong (l : Launch) (D : va_G) (cs : qC) {M0 : qM} {N r k : Nat} {L : List Int32} (hL0 : qRow cs M0 r L k) (p1 : Int32) :
    qMet l D cs yX10_stepsAlong (qws yX10_stepsAlong cX10_stepsAlong 4 (some .int)) ({ frames := 1, cells := 0, slots := 0, locals := 21 } : Room) M0 N [.ref r, .int p1] (qRet M0 N (.int (s_X10_stepsAlong L p1))) 0 0 := by
  obtain ⟨R, hR⟩ : ∃ R, s_X10_stepsAlong L p1 = R := ⟨_, rfl⟩
  rw [hR]
  rw [s_X10_stepsAlong] at hR
  refine q_head (by decide +kernel) ?_ (Nat.le_of_ble_eq_true rfl)
  intro p e s m below meth c ls hx hb hret hlk hml hown hnm hg hK hN hI hl
  have hl : lv_has ls 4 [(0, .ref r), (1, .int p1)] := hl
  refine lv_iconst (v := 0) hx hb dX10_stepsAlong_0 (by decide) ?_
  refine lv_istore_n (lv' := [(2, .int 0), (0, .ref r), (1, .int p1)]) hx hb dX10_stepsAlong_1 rfl hl (by decide) rfl (fun ls hl => ?_)
  refine lv_aload_n hx hb dX10_stepsAlong_2 rfl (lv_at hl 1 rfl) ?_
  refine lv_iload_n hx hb dX10_stepsAlong_3 rfl (lv_at hl 2 rfl) ?_
  refine q_goR (q_runS (As := [.ref r, .int p1]) (rest := []) hx hb hml hown hg (c_X10_at l D cs hL0 p1) v_X10_at wl_X10_318 rfl rfl ⟨Nat.le_of_ble_eq_true rfl, Nat.le_of_ble_eq_true rfl⟩ hI hK hl.1 rfl rfl (Nat.le_of_ble_eq_true rfl) dX10_stepsAlong_4 ⟨Nat.le_of_ble_eq_true rfl, Nat.le_of_ble_eq_true rfl⟩) hI (fun H locs hI => ?_)
  refine lv_istore_n (lv' := [(3, .int (rowAt L p1)), (2, .int 0), (0, .ref r), (1, .int p1)]) hx hb dX10_stepsAlong_7 rfl hl (by decide) rfl (fun ls hl => ?_)
  have loop8 : ∀ (n8 : Nat) (x2h8 : Int32) (x3h8 : Int32), qmu 16 x2h8 < n8 → s_X10_stepsAlong_L8 L p1 n8 x2h8 x3h8 = R → ∀ (H : Heap) (locs : List Loc) (ls : Array Slot), qI D M0 s.heap M0 N H locs → lv_has ls 4 [(0, .ref r), (1, .int p1), (2, .int x2h8), (3, .int x3h8)] →
      W p l e ({ frames := 1, cells := 0, slots := 0, locals := 21 } : Room) s m [Value.ref r, Value.int p1].toArray below meth c H locs 0 0 (MQ below (qQ D M0 N (qRet M0 N (.int R))) [Value.ref r, Value.int p1].toArray s 0 0 (qA M0 N)) (F0 m 8 ls []) := by
    intro n8
    induction n8 with
    | zero => intro x2h8 x3h8 hm; exact absurd hm (Nat.not_lt_zero _)
    | succ n8 ih8 =>
      intro x2h8 x3h8 hm8 hR H locs ls  hI hl
      rw [s_X10_stepsAlong_L8] at hR
      refine lv_iload_n hx hb dX10_stepsAlong_8 rfl (lv_at hl 2 rfl) ?_
      refine lv_bipush (v := 16) hx hb dX10_stepsAlong_9 (by decide) ?_
      refine lv_icmp_ge (tgt := 30) hx hb dX10_stepsAlong_11 (by decide) (fun c1 => ?_) (fun c1 => ?_)
      · rw [if_pos c1] at hR
        refine lv_iload_n hx hb dX10_stepsAlong_30 rfl (lv_at hl 2 rfl) ?_
        exact q_iret hx hb hret hlk hN hI (by subst hR; exact ⟨rfl, rfl, rfl⟩) dX10_stepsAlong_31
      · rw [if_neg c1] at hR
        refine lv_iload_n hx hb dX10_stepsAlong_14 rfl (lv_at hl 3 rfl) ?_
        refine lv_if_lt (tgt := 30) hx hb dX10_stepsAlong_15 (by decide) (fun c2 => ?_) (fun c2 => ?_)
        · rw [if_pos c2] at hR
          refine lv_iload_n hx hb dX10_stepsAlong_30 rfl (lv_at hl 2 rfl) ?_
          exact q_iret hx hb hret hlk hN hI (by subst hR; exact ⟨rfl, rfl, rfl⟩) dX10_stepsAlong_31
        · rw [if_neg c2] at hR
          refine lv_iinc (v := x2h8 + 1) (lv' := [(2, .int (x2h8 + 1)), (0, .ref r), (1, .int p1), (3, .int x3h8)]) hx hb dX10_stepsAlong_18 hl (k := 2) rfl rfl (by decide) rfl (fun ls hl => ?_)
          refine lv_aload_n hx hb dX10_stepsAlong_21 rfl (lv_at hl 1 rfl) ?_
          refine lv_iload_n hx hb dX10_stepsAlong_22 rfl (lv_at hl 3 rfl) ?_
          refine q_goR (q_runS (As := [.ref r, .int x3h8]) (rest := []) hx hb hml hown hg (c_X10_at l D cs hL0 x3h8) v_X10_at wl_X10_318 rfl rfl ⟨Nat.le_of_ble_eq_true rfl, Nat.le_of_ble_eq_true rfl⟩ hI hK hl.1 rfl rfl (Nat.le_of_ble_eq_true rfl) dX10_stepsAlong_23 ⟨Nat.le_of_ble_eq_true rfl, Nat.le_of_ble_eq_true rfl⟩) hI (fun H locs hI => ?_)
          refine lv_istore_n (lv' := [(3, .int (rowAt L x3h8)), (2, .int (x2h8 + 1)), (0, .ref r), (1, .int p1)]) hx hb dX10_stepsAlong_26 rfl hl (by decide) rfl (fun ls hl => ?_)
          refine lv_goto (tgt := 8) hx hb dX10_stepsAlong_27 (by decide) ?_
          exact ih8 (x2h8 + 1) (rowAt L x3h8) (q_mu c1 hm8) hR _ _ _  hI (lv_sub hl [2, 3, 1, 0] rfl)
  exact loop8 _ 0 (rowAt L p1) (q_fuel _) hR _ _ _  hI (lv_sub hl [2, 3, 1, 0] rfl)
def s_X10_isAlong_L5 (L : List Int32) (p1 : Int32) (p2 : Int32) : Nat → Int32 → Int32 → Bool
  | 0, _, _ => default
  | n + 1, x3h5, x4h5 => (if 16 ≤ x4h5 then false else (if x3h5 < 0 then false else (if x3h5 = p2 then true else (s_X10_isAlong_L5 L p1 p2 n (rowAt L x3h5) (x4h5 + 1)))))
def s_X10_isAlong (L : List Int32) (p1 : Int32) (p2 : Int32) : Bool := (s_X10_isAlong_L5 L p1 p2 ((16 : Int32).toInt.toNat + 1) p1 0)
set_option maxHeartbeats 4000000 in
set_option maxRecDepth 20000 in
theorem c_X10_isAlong (l : Launch) (D : va_G) (cs : qC) {M0 : qM} {N r k : Nat} {L : List Int32} (hL0 : qRow cs M0 r L k) (p1 : Int32) (p2 : Int32) :
    qMet l D cs yX10_isAlong (qws yX10_isAlong cX10_isAlong 5 (some .boolean)) ({ frames := 1, cells := 0, slots := 0, locals := 21 } : Room) M0 N [.ref r, .int p1, .int p2] (qRet M0 N (.int (qbi (s_X10_isAlong L p1 p2)))) 0 0 := by
  obtain ⟨R, hR⟩ : ∃ R, s_X10_isAlong L p1 p2 = R := ⟨_, rfl⟩
  rw [hR]
  rw [s_X10_isAlong] at hR
  refine q_head (by decide +kernel) ?_ (Nat.le_of_ble_eq_true rfl)
  intro p e s m below meth c ls hx hb hret hlk hml hown hnm hg hK hN hI hl
  have hl : lv_has ls 5 [(0, .ref r), (1, .int p1), (2, .int p2)] := hl
  refine lv_iload_n hx hb dX10_isAlong_0 rfl (lv_at hl 1 rfl) ?_
  refine lv_istore_n (lv' := [(3, .int p1), (0, .ref r), (1, .int p1), (2, .int p2)]) hx hb dX10_isAlong_1 rfl hl (by decide) rfl (fun ls hl => ?_)
  refine lv_iconst (v := 0) hx hb dX10_isAlong_2 (by decide) ?_
  refine lv_istore (lv' := [(4, .int 0), (3, .int p1), (0, .ref r), (1, .int p1), (2, .int p2)]) hx hb dX10_isAlong_3 hl (by decide) rfl (fun ls hl => ?_)
  have loop5 : ∀ (n5 : Nat) (x3h5 : Int32) (x4h5 : Int32), qmu 16 x4h5 < n5 → s_X10_isAlong_L5 L p1 p2 n5 x3h5 x4h5 = R → ∀ (H : Heap) (locs : List Loc) (ls : Array Slot), qI D M0 s.heap M0 N H locs → lv_has ls 5 [(0, .ref r), (1, .int p1), (2, .int p2), (3, .int x3h5), (4, .int x4h5)] →
      W p l e ({ frames := 1, cells := 0, slots := 0, locals := 21 } : Room) s m [Value.ref r, Value.int p1, Value.int p2].toArray below meth c H locs 0 0 (MQ below (qQ D M0 N (qRet M0 N (.int (qbi R)))) [Value.ref r, Value.int p1, Value.int p2].toArray s 0 0 (qA M0 N)) (F0 m 5 ls []) := by
    intro n5
    induction n5 with
    | zero => intro x3h5 x4h5 hm; exact absurd hm (Nat.not_lt_zero _)
    | succ n5 ih5 =>
      intro x3h5 x4h5 hm5 hR H locs ls  hI hl
      rw [s_X10_isAlong_L5] at hR
      refine lv_iload hx hb dX10_isAlong_5 (lv_at hl 4 rfl) ?_
      refine lv_bipush (v := 16) hx hb dX10_isAlong_7 (by decide) ?_
      refine lv_icmp_ge (tgt := 35) hx hb dX10_isAlong_9 (by decide) (fun c1 => ?_) (fun c1 => ?_)
      · rw [if_pos c1] at hR
        refine lv_iconst (v := 0) hx hb dX10_isAlong_35 (by decide) ?_
        exact q_zret hx hb hret rfl hlk hN hI (by subst hR; exact ⟨rfl, rfl, rfl⟩) dX10_isAlong_36
      · rw [if_neg c1] at hR
        refine lv_iload_n hx hb dX10_isAlong_12 rfl (lv_at hl 3 rfl) ?_
        refine lv_if_lt (tgt := 35) hx hb dX10_isAlong_13 (by decide) (fun c2 => ?_) (fun c2 => ?_)
        · rw [if_pos c2] at hR
          refine lv_iconst (v := 0) hx hb dX10_isAlong_35 (by decide) ?_
          exact q_zret hx hb hret rfl hlk hN hI (by subst hR; exact ⟨rfl, rfl, rfl⟩) dX10_isAlong_36
        · rw [if_neg c2] at hR
          refine lv_iload_n hx hb dX10_isAlong_16 rfl (lv_at hl 3 rfl) ?_
          refine lv_iload_n hx hb dX10_isAlong_17 rfl (lv_at hl 2 rfl) ?_
          refine lv_icmp_ne (tgt := 23) hx hb dX10_isAlong_18 (by decide) (fun c3 => ?_) (fun c3 => ?_)
          · rw [if_neg c3] at hR
            refine lv_aload_n hx hb dX10_isAlong_23 rfl (lv_at hl 0 rfl) ?_
            refine lv_iload_n hx hb dX10_isAlong_24 rfl (lv_at hl 3 rfl) ?_
            refine q_goR (q_runS (As := [.ref r, .int x3h5]) (rest := []) hx hb hml hown hg (c_X10_at l D cs hL0 x3h5) v_X10_at wl_X10_318 rfl rfl ⟨Nat.le_of_ble_eq_true rfl, Nat.le_of_ble_eq_true rfl⟩ hI hK hl.1 rfl rfl (Nat.le_of_ble_eq_true rfl) dX10_isAlong_25 ⟨Nat.le_of_ble_eq_true rfl, Nat.le_of_ble_eq_true rfl⟩) hI (fun H locs hI => ?_)
            refine lv_istore_n (lv' := [(3, .int (rowAt L x3h5)), (0, .ref r), (1, .int p1), (2, .int p2), (4, .int x4h5)]) hx hb dX10_isAlong_28 rfl hl (by decide) rfl (fun ls hl => ?_)
            refine lv_iinc (v := x4h5 + 1) (lv' := [(4, .int (x4h5 + 1)), (3, .int (rowAt L x3h5)), (0, .ref r), (1, .int p1), (2, .int p2)]) hx hb dX10_isAlong_29 hl (k := 4) rfl rfl (by decide) rfl (fun ls hl => ?_)
            refine lv_goto (tgt := 5) hx hb dX10_isAlong_32 (by decide) ?_
            exact ih5 (rowAt L x3h5) (x4h5 + 1) (q_mu c1 hm5) hR _ _ _  hI (lv_sub hl [2, 3, 4, 1, 0] rfl)
          · rw [if_pos c3] at hR
            refine lv_iconst (v := 1) hx hb dX10_isAlong_21 (by decide) ?_
            exact q_zret hx hb hret rfl hlk hN hI (by subst hR; exact ⟨rfl, rfl, rfl⟩) dX10_isAlong_22
  exact loop5 _ p1 0 (q_fuel _) hR _ _ _  hI (lv_sub hl [2, 3, 4, 1, 0] rfl)
def s_X10_orNothing  (p0 : Int32) : Int32 := (if 0 ≤ p0 then p0 else (-4))
set_option maxHeartbeats 4000000 in
set_option maxRecDepth 20000 in
theorem c_X10_orNothing (l : Launch) (D : va_G) (cs : qC) {M0 : qM} {N : Nat} (p0 : Int32) :
    qMet l D cs yX10_orNothing (qws yX10_orNothing cX10_orNothing 1 (some .int)) ({ frames := 0, cells := 0, slots := 0, locals := 0 } : Room) M0 N [.int p0] (qRet M0 N (.int (s_X10_orNothing p0))) 0 0 := by
  obtain ⟨R, hR⟩ : ∃ R, s_X10_orNothing p0 = R := ⟨_, rfl⟩
  rw [hR]
  rw [s_X10_orNothing] at hR
  refine q_head (by decide +kernel) ?_ (Nat.le_of_ble_eq_true rfl)
  intro p e s m below meth c ls hx hb hret hlk hml hown hnm hg hK hN hI hl
  have hl : lv_has ls 1 [(0, .int p0)] := hl
  refine lv_iload_n hx hb dX10_orNothing_0 rfl (lv_at hl 0 rfl) ?_
  refine lv_if_ge (tgt := 9) hx hb dX10_orNothing_1 (by decide) (fun c1 => ?_) (fun c1 => ?_)
  · rw [if_pos c1] at hR
    refine lv_iload_n hx hb dX10_orNothing_9 rfl (lv_at hl 0 rfl) ?_
    exact q_iret hx hb hret hlk hN hI (by subst hR; exact ⟨rfl, rfl, rfl⟩) dX10_orNothing_10
  · rw [if_neg c1] at hR
    refine lv_bipush (v := (-4)) hx hb dX10_orNothing_4 (by decide) ?_
    refine lv_goto (tgt := 10) hx hb dX10_orNothing_6 (by decide) ?_
    exact q_iret hx hb hret hlk hN hI (by subst hR; exact ⟨rfl, rfl, rfl⟩) dX10_orNothing_10
def s_X5_isWeight  (p0 : Int32) : Bool := (if p0 < 0 then false else (if 99 < p0 then false else true))
set_option maxHeartbeats 4000000 in
set_option maxRecDepth 20000 in
theorem c_X5_isWeight (l : Launch) (D : va_G) (cs : qC) {M0 : qM} {N : Nat} (p0 : Int32) :
    qMet l D cs yX5_isWeight (qws yX5_isWeight cX5_isWeight 1 (some .boolean)) ({ frames := 0, cells := 0, slots := 0, locals := 0 } : Room) M0 N [.int p0] (qRet M0 N (.int (qbi (s_X5_isWeight p0)))) 0 0 := by
  obtain ⟨R, hR⟩ : ∃ R, s_X5_isWeight p0 = R := ⟨_, rfl⟩
  rw [hR]
  rw [s_X5_isWeight] at hR
  refine q_head (by decide +kernel) ?_ (Nat.le_of_ble_eq_true rfl)
  intro p e s m below meth c ls hx hb hret hlk hml hown hnm hg hK hN hI hl
  have hl : lv_has ls 1 [(0, .int p0)] := hl
  refine lv_iload_n hx hb dX5_isWeight_0 rfl (lv_at hl 0 rfl) ?_
  refine lv_if_lt (tgt := 14) hx hb dX5_isWeight_1 (by decide) (fun c1 => ?_) (fun c1 => ?_)
  · rw [if_pos c1] at hR
    refine lv_iconst (v := 0) hx hb dX5_isWeight_14 (by decide) ?_
    exact q_zret hx hb hret rfl hlk hN hI (by subst hR; exact ⟨rfl, rfl, rfl⟩) dX5_isWeight_15
  · rw [if_neg c1] at hR
    refine lv_iload_n hx hb dX5_isWeight_4 rfl (lv_at hl 0 rfl) ?_
    refine lv_bipush (v := 99) hx hb dX5_isWeight_5 (by decide) ?_
    refine lv_icmp_gt (tgt := 14) hx hb dX5_isWeight_7 (by decide) (fun c2 => ?_) (fun c2 => ?_)
    · rw [if_pos c2] at hR
      refine lv_iconst (v := 0) hx hb dX5_isWeight_14 (by decide) ?_
      exact q_zret hx hb hret rfl hlk hN hI (by subst hR; exact ⟨rfl, rfl, rfl⟩) dX5_isWeight_15
    · rw [if_neg c2] at hR
      refine lv_iconst (v := 1) hx hb dX5_isWeight_10 (by decide) ?_
      refine lv_goto (tgt := 15) hx hb dX5_isWeight_11 (by decide) ?_
      exact q_zret hx hb hret rfl hlk hN hI (by subst hR; exact ⟨rfl, rfl, rfl⟩) dX5_isWeight_15
