def s_X10_fault (f : (Int32 × Int32))  : Int32 := f.1
set_option maxHeartbeats 4000000 in
set_option maxRecDepth 20000 in
theorem c_X10_fault (l : Launch) (D : va_G) (cs : qC) {M0 : qM} {N a : Nat} {f : (Int32 × Int32)} (hL0 : qLX cs M0 a f) :
    qMet l D cs yX10_fault (qws yX10_fault cX10_fault 1 (some .int)) ({ frames := 0, cells := 0, slots := 0, locals := 0 } : Room) M0 N [.ref a] (qRet M0 N (.int (s_X10_fault f))) 0 0 := by
  obtain ⟨R, hR⟩ : ∃ R, s_X10_fault f = R := ⟨_, rfl⟩
  rw [hR]
  rw [s_X10_fault] at hR
  refine q_head (by decide +kernel) ?_ (Nat.le_of_ble_eq_true rfl)
  intro p e s m below meth c ls hx hb hret hlk hml hown hnm hg hK hN hI hl
  have hl : lv_has ls 1 [(0, .ref a)] := hl
  refine lv_aload_n hx hb dX10_fault_0 rfl (lv_at hl 0 rfl) ?_
  refine q_get hx hb hg in_X10 hown hK hI hL0 rfl 7 (by decide) (hg _ wf_X10_50) (fun _ h9 => h9) rfl dX10_fault_1 ?_
  exact q_iret hx hb hret hlk hN hI (by subst hR; exact ⟨rfl, rfl, rfl⟩) dX10_fault_4
def s_X10_reason (f : (Int32 × Int32)) (rs : qRV) (p1 : Int32) (p2 : Int32) : Int32 := s_X6_tell rs p1 p2
set_option maxHeartbeats 4000000 in
set_option maxRecDepth 20000 in
theorem c_X10_reason (l : Launch) (D : va_G) (cs : qC) {M0 : qM} {N a : Nat} {f : (Int32 × Int32)} {rs : qRV} (hL0 : qLX cs M0 a f) (hL1 : qLR cs M0 (a + 166) rs) (p1 : Int32) (p2 : Int32) :
    qMet l D cs yX10_reason (qws yX10_reason cX10_reason 3 (some .int)) ({ frames := 1, cells := 0, slots := 0, locals := 24 } : Room) M0 N [.ref a, .int p1, .int p2] (qRet M0 N (.int (s_X10_reason f rs p1 p2))) 0 0 := by
  obtain ⟨R, hR⟩ : ∃ R, s_X10_reason f rs p1 p2 = R := ⟨_, rfl⟩
  rw [hR]
  rw [s_X10_reason] at hR
  refine q_head (by decide +kernel) ?_ (Nat.le_of_ble_eq_true rfl)
  intro p e s m below meth c ls hx hb hret hlk hml hown hnm hg hK hN hI hl
  have hl : lv_has ls 3 [(0, .ref a), (1, .int p1), (2, .int p2)] := hl
  refine lv_aload_n hx hb dX10_reason_0 rfl (lv_at hl 0 rfl) ?_
  refine q_get hx hb hg in_X10 hown hK hI hL0 rfl 6 (by decide) (hg _ wf_X10_46) (fun _ h9 => h9) rfl dX10_reason_1 ?_
  refine lv_iload_n hx hb dX10_reason_4 rfl (lv_at hl 1 rfl) ?_
  refine lv_iload_n hx hb dX10_reason_5 rfl (lv_at hl 2 rfl) ?_
  refine q_goR (q_runV (As := [.int p1, .int p2]) (rest := []) hx hb hml hown hg (c_X6_tell l D cs hL1 p1 p2) v_X6_tell wl_X10_139 rfl rfl ⟨Nat.le_of_ble_eq_true rfl, Nat.le_of_ble_eq_true rfl⟩ hI hK 7 hL1 rfl hl.1 rfl rfl (Nat.le_of_ble_eq_true rfl) dX10_reason_6 ⟨Nat.le_of_ble_eq_true rfl, Nat.le_of_ble_eq_true rfl⟩) hI (fun H locs hI => ?_)
  exact q_iret hx hb hret hlk hN hI (by subst hR; exact ⟨rfl, rfl, rfl⟩) dX10_reason_9
def s_X10_blockOf (f : (Int32 × Int32)) (q : qQV) (p1 : Int32) (p2 : Int32) : Int32 := (if (qbi (s_X1_isThere q.1 p1)) = 0 then (-1) else (if p2 = 0 then s_X1_weightOf q.1 p1 else (if p2 = 1 then s_X10_orNothing  (s_X1_holderOf q.1 p1) else (if p2 = 2 then s_X1_depthOf q.1 p1 else (if p2 = 3 then s_X1_hangingAtOnce q.1 p1 else (if p2 = 4 then s_X1_hangingInAll q.1 p1 else (if p2 = 5 then s_X1_sizeOfHang q.1 p1 else (if p2 = 6 then s_X7_countAt q.2.2.1 p1 else (-2)))))))))
set_option maxHeartbeats 4000000 in
set_option maxRecDepth 20000 in
theorem c_X10_blockOf (l : Launch) (D : va_G) (cs : qC) {M0 : qM} {N a : Nat} {f : (Int32 × Int32)} {q : qQV} (hL0 : qLX cs M0 a f) (hL1 : qLQ cs M0 (a + 1) q) (p1 : Int32) (p2 : Int32) :
    qMet l D cs yX10_blockOf (qws yX10_blockOf cX10_blockOf 3 (some .int)) ({ frames := 4, cells := 0, slots := 0, locals := 89 } : Room) M0 N [.ref a, .int p1, .int p2] (qRet M0 N (.int (s_X10_blockOf f q p1 p2))) 0 0 := by
  obtain ⟨R, hR⟩ : ∃ R, s_X10_blockOf f q p1 p2 = R := ⟨_, rfl⟩
  rw [hR]
  rw [s_X10_blockOf] at hR
  refine q_head (by decide +kernel) ?_ (Nat.le_of_ble_eq_true rfl)
  intro p e s m below meth c ls hx hb hret hlk hml hown hnm hg hK hN hI hl
  have hl : lv_has ls 3 [(0, .ref a), (1, .int p1), (2, .int p2)] := hl
  refine lv_aload_n hx hb dX10_blockOf_0 rfl (lv_at hl 0 rfl) ?_
  refine q_get hx hb hg in_X10 hown hK hI hL0 rfl 0 (by decide) (hg _ wf_X10_10) (fun _ h9 => h9) rfl dX10_blockOf_1 ?_
  refine q_getN hx hb hg in_X5 hown hK hI hL1.1 rfl 0 (by decide) (hK.2 _ (List.mem_of_getElem? (i := 12) rfl)) (fun _ h9 => h9) rfl dX10_blockOf_4 ?_
  refine lv_iload_n hx hb dX10_blockOf_7 rfl (lv_at hl 1 rfl) ?_
  refine q_goR (q_runV (As := [.int p1]) (rest := []) hx hb hml hown hg (c_X1_isThere l D cs hL1.2.1 p1) v_X1_isThere wl_X10_143 rfl rfl ⟨Nat.le_of_ble_eq_true rfl, Nat.le_of_ble_eq_true rfl⟩ hI hK 2 hL1.2.1.1 rfl hl.1 rfl rfl (Nat.le_of_ble_eq_true rfl) dX10_blockOf_8 ⟨Nat.le_of_ble_eq_true rfl, Nat.le_of_ble_eq_true rfl⟩) hI (fun H locs hI => ?_)
  refine lv_if_ne (tgt := 16) hx hb dX10_blockOf_11 (by decide) (fun c1 => ?_) (fun c1 => ?_)
  · rw [if_neg c1] at hR
    refine lv_iload_n hx hb dX10_blockOf_16 rfl (lv_at hl 2 rfl) ?_
    by_cases h2 : p2 = 0
    · rw [if_pos h2] at hR
      refine lv_tableIn (off := 43) (tgt := 60) hx hb dX10_blockOf_17 (by rw [h2]; decide) (by rw [h2]; decide) (by rw [h2]; decide) (by decide) ?_
      refine lv_aload_n hx hb dX10_blockOf_60 rfl (lv_at hl 0 rfl) ?_
      refine q_get hx hb hg in_X10 hown hK hI hL0 rfl 0 (by decide) (hg _ wf_X10_10) (fun _ h9 => h9) rfl dX10_blockOf_61 ?_
      refine q_getN hx hb hg in_X5 hown hK hI hL1.1 rfl 0 (by decide) (hK.2 _ (List.mem_of_getElem? (i := 12) rfl)) (fun _ h9 => h9) rfl dX10_blockOf_64 ?_
      refine lv_iload_n hx hb dX10_blockOf_67 rfl (lv_at hl 1 rfl) ?_
      refine q_goR (q_runV (As := [.int p1]) (rest := []) hx hb hml hown hg (c_X1_weightOf l D cs hL1.2.1 p1) v_X1_weightOf wl_X10_147 rfl rfl ⟨Nat.le_of_ble_eq_true rfl, Nat.le_of_ble_eq_true rfl⟩ hI hK 2 hL1.2.1.1 rfl hl.1 rfl rfl (Nat.le_of_ble_eq_true rfl) dX10_blockOf_68 ⟨Nat.le_of_ble_eq_true rfl, Nat.le_of_ble_eq_true rfl⟩) hI (fun H locs hI => ?_)
      refine lv_goto (tgt := 163) hx hb dX10_blockOf_71 (by decide) ?_
      exact q_iret hx hb hret hlk hN hI (by subst hR; exact ⟨rfl, rfl, rfl⟩) dX10_blockOf_163
    rw [if_neg h2] at hR
    by_cases h3 : p2 = 1
    · rw [if_pos h3] at hR
      refine lv_tableIn (off := 57) (tgt := 74) hx hb dX10_blockOf_17 (by rw [h3]; decide) (by rw [h3]; decide) (by rw [h3]; decide) (by decide) ?_
      refine lv_aload_n hx hb dX10_blockOf_74 rfl (lv_at hl 0 rfl) ?_
      refine q_get hx hb hg in_X10 hown hK hI hL0 rfl 0 (by decide) (hg _ wf_X10_10) (fun _ h9 => h9) rfl dX10_blockOf_75 ?_
      refine q_getN hx hb hg in_X5 hown hK hI hL1.1 rfl 0 (by decide) (hK.2 _ (List.mem_of_getElem? (i := 12) rfl)) (fun _ h9 => h9) rfl dX10_blockOf_78 ?_
      refine lv_iload_n hx hb dX10_blockOf_81 rfl (lv_at hl 1 rfl) ?_
      refine q_goR (q_runV (As := [.int p1]) (rest := []) hx hb hml hown hg (c_X1_holderOf l D cs hL1.2.1 p1) v_X1_holderOf wl_X10_150 rfl rfl ⟨Nat.le_of_ble_eq_true rfl, Nat.le_of_ble_eq_true rfl⟩ hI hK 2 hL1.2.1.1 rfl hl.1 rfl rfl (Nat.le_of_ble_eq_true rfl) dX10_blockOf_82 ⟨Nat.le_of_ble_eq_true rfl, Nat.le_of_ble_eq_true rfl⟩) hI (fun H locs hI => ?_)
      refine q_goR (q_runS (As := [.int (s_X1_holderOf q.1 p1)]) (rest := []) hx hb hml hown hg (c_X10_orNothing l D cs (s_X1_holderOf q.1 p1)) v_X10_orNothing wl_X10_153 rfl rfl ⟨Nat.le_of_ble_eq_true rfl, Nat.le_of_ble_eq_true rfl⟩ hI hK hl.1 rfl rfl (Nat.le_of_ble_eq_true rfl) dX10_blockOf_85 ⟨Nat.le_of_ble_eq_true rfl, Nat.le_of_ble_eq_true rfl⟩) hI (fun H locs hI => ?_)
      refine lv_goto (tgt := 163) hx hb dX10_blockOf_88 (by decide) ?_
      exact q_iret hx hb hret hlk hN hI (by subst hR; exact ⟨rfl, rfl, rfl⟩) dX10_blockOf_163
    rw [if_neg h3] at hR
    by_cases h4 : p2 = 2
    · rw [if_pos h4] at hR
      refine lv_tableIn (off := 74) (tgt := 91) hx hb dX10_blockOf_17 (by rw [h4]; decide) (by rw [h4]; decide) (by rw [h4]; decide) (by decide) ?_
      refine lv_aload_n hx hb dX10_blockOf_91 rfl (lv_at hl 0 rfl) ?_
      refine q_get hx hb hg in_X10 hown hK hI hL0 rfl 0 (by decide) (hg _ wf_X10_10) (fun _ h9 => h9) rfl dX10_blockOf_92 ?_
      refine q_getN hx hb hg in_X5 hown hK hI hL1.1 rfl 0 (by decide) (hK.2 _ (List.mem_of_getElem? (i := 12) rfl)) (fun _ h9 => h9) rfl dX10_blockOf_95 ?_
      refine lv_iload_n hx hb dX10_blockOf_98 rfl (lv_at hl 1 rfl) ?_
      refine q_goR (q_runV (As := [.int p1]) (rest := []) hx hb hml hown hg (c_X1_depthOf l D cs hL1.2.1 p1) v_X1_depthOf wl_X10_156 rfl rfl ⟨Nat.le_of_ble_eq_true rfl, Nat.le_of_ble_eq_true rfl⟩ hI hK 2 hL1.2.1.1 rfl hl.1 rfl rfl (Nat.le_of_ble_eq_true rfl) dX10_blockOf_99 ⟨Nat.le_of_ble_eq_true rfl, Nat.le_of_ble_eq_true rfl⟩) hI (fun H locs hI => ?_)
      refine lv_goto (tgt := 163) hx hb dX10_blockOf_102 (by decide) ?_
      exact q_iret hx hb hret hlk hN hI (by subst hR; exact ⟨rfl, rfl, rfl⟩) dX10_blockOf_163
    rw [if_neg h4] at hR
    by_cases h5 : p2 = 3
    · rw [if_pos h5] at hR
      refine lv_tableIn (off := 88) (tgt := 105) hx hb dX10_blockOf_17 (by rw [h5]; decide) (by rw [h5]; decide) (by rw [h5]; decide) (by decide) ?_
      refine lv_aload_n hx hb dX10_blockOf_105 rfl (lv_at hl 0 rfl) ?_
      refine q_get hx hb hg in_X10 hown hK hI hL0 rfl 0 (by decide) (hg _ wf_X10_10) (fun _ h9 => h9) rfl dX10_blockOf_106 ?_
      refine q_getN hx hb hg in_X5 hown hK hI hL1.1 rfl 0 (by decide) (hK.2 _ (List.mem_of_getElem? (i := 12) rfl)) (fun _ h9 => h9) rfl dX10_blockOf_109 ?_
      refine lv_iload_n hx hb dX10_blockOf_112 rfl (lv_at hl 1 rfl) ?_
      refine q_goR (q_runV (As := [.int p1]) (rest := []) hx hb hml hown hg (c_X1_hangingAtOnce l D cs hL1.2.1 p1) v_X1_hangingAtOnce wl_X10_159 rfl rfl ⟨Nat.le_of_ble_eq_true rfl, Nat.le_of_ble_eq_true rfl⟩ hI hK 2 hL1.2.1.1 rfl hl.1 rfl rfl (Nat.le_of_ble_eq_true rfl) dX10_blockOf_113 ⟨Nat.le_of_ble_eq_true rfl, Nat.le_of_ble_eq_true rfl⟩) hI (fun H locs hI => ?_)
      refine lv_goto (tgt := 163) hx hb dX10_blockOf_116 (by decide) ?_
      exact q_iret hx hb hret hlk hN hI (by subst hR; exact ⟨rfl, rfl, rfl⟩) dX10_blockOf_163
    rw [if_neg h5] at hR
    by_cases h6 : p2 = 4
    · rw [if_pos h6] at hR
      refine lv_tableIn (off := 102) (tgt := 119) hx hb dX10_blockOf_17 (by rw [h6]; decide) (by rw [h6]; decide) (by rw [h6]; decide) (by decide) ?_
      refine lv_aload_n hx hb dX10_blockOf_119 rfl (lv_at hl 0 rfl) ?_
      refine q_get hx hb hg in_X10 hown hK hI hL0 rfl 0 (by decide) (hg _ wf_X10_10) (fun _ h9 => h9) rfl dX10_blockOf_120 ?_
      refine q_getN hx hb hg in_X5 hown hK hI hL1.1 rfl 0 (by decide) (hK.2 _ (List.mem_of_getElem? (i := 12) rfl)) (fun _ h9 => h9) rfl dX10_blockOf_123 ?_
      refine lv_iload_n hx hb dX10_blockOf_126 rfl (lv_at hl 1 rfl) ?_
      refine q_goR (q_runV (As := [.int p1]) (rest := []) hx hb hml hown hg (c_X1_hangingInAll l D cs hL1.2.1 p1) v_X1_hangingInAll wl_X10_162 rfl rfl ⟨Nat.le_of_ble_eq_true rfl, Nat.le_of_ble_eq_true rfl⟩ hI hK 2 hL1.2.1.1 rfl hl.1 rfl rfl (Nat.le_of_ble_eq_true rfl) dX10_blockOf_127 ⟨Nat.le_of_ble_eq_true rfl, Nat.le_of_ble_eq_true rfl⟩) hI (fun H locs hI => ?_)
      refine lv_goto (tgt := 163) hx hb dX10_blockOf_130 (by decide) ?_
      exact q_iret hx hb hret hlk hN hI (by subst hR; exact ⟨rfl, rfl, rfl⟩) dX10_blockOf_163
    rw [if_neg h6] at hR
    by_cases h7 : p2 = 5
    · rw [if_pos h7] at hR
      refine lv_tableIn (off := 116) (tgt := 133) hx hb dX10_blockOf_17 (by rw [h7]; decide) (by rw [h7]; decide) (by rw [h7]; decide) (by decide) ?_
      refine lv_aload_n hx hb dX10_blockOf_133 rfl (lv_at hl 0 rfl) ?_
      refine q_get hx hb hg in_X10 hown hK hI hL0 rfl 0 (by decide) (hg _ wf_X10_10) (fun _ h9 => h9) rfl dX10_blockOf_134 ?_
      refine q_getN hx hb hg in_X5 hown hK hI hL1.1 rfl 0 (by decide) (hK.2 _ (List.mem_of_getElem? (i := 12) rfl)) (fun _ h9 => h9) rfl dX10_blockOf_137 ?_
      refine lv_iload_n hx hb dX10_blockOf_140 rfl (lv_at hl 1 rfl) ?_
      refine q_goR (q_runV (As := [.int p1]) (rest := []) hx hb hml hown hg (c_X1_sizeOfHang l D cs hL1.2.1 p1) v_X1_sizeOfHang wl_X10_165 rfl rfl ⟨Nat.le_of_ble_eq_true rfl, Nat.le_of_ble_eq_true rfl⟩ hI hK 2 hL1.2.1.1 rfl hl.1 rfl rfl (Nat.le_of_ble_eq_true rfl) dX10_blockOf_141 ⟨Nat.le_of_ble_eq_true rfl, Nat.le_of_ble_eq_true rfl⟩) hI (fun H locs hI => ?_)
      refine lv_goto (tgt := 163) hx hb dX10_blockOf_144 (by decide) ?_
      exact q_iret hx hb hret hlk hN hI (by subst hR; exact ⟨rfl, rfl, rfl⟩) dX10_blockOf_163
    rw [if_neg h7] at hR
    by_cases h8 : p2 = 6
    · rw [if_pos h8] at hR
      refine lv_tableIn (off := 130) (tgt := 147) hx hb dX10_blockOf_17 (by rw [h8]; decide) (by rw [h8]; decide) (by rw [h8]; decide) (by decide) ?_
      refine lv_aload_n hx hb dX10_blockOf_147 rfl (lv_at hl 0 rfl) ?_
      refine q_get hx hb hg in_X10 hown hK hI hL0 rfl 0 (by decide) (hg _ wf_X10_10) (fun _ h9 => h9) rfl dX10_blockOf_148 ?_
      refine q_getN hx hb hg in_X5 hown hK hI hL1.1 rfl 2 (by decide) (hK.2 _ (List.mem_of_getElem? (i := 14) rfl)) (fun _ h9 => h9) rfl dX10_blockOf_151 ?_
      refine lv_iload_n hx hb dX10_blockOf_154 rfl (lv_at hl 1 rfl) ?_
      refine q_goR (q_runV (As := [.int p1]) (rest := []) hx hb hml hown hg (c_X7_countAt l D cs hL1.2.2.2 p1) v_X7_countAt wl_X10_172 rfl rfl ⟨Nat.le_of_ble_eq_true rfl, Nat.le_of_ble_eq_true rfl⟩ hI hK 8 hL1.2.2.2.1 rfl hl.1 rfl rfl (Nat.le_of_ble_eq_true rfl) dX10_blockOf_155 ⟨Nat.le_of_ble_eq_true rfl, Nat.le_of_ble_eq_true rfl⟩) hI (fun H locs hI => ?_)
      refine lv_goto (tgt := 163) hx hb dX10_blockOf_158 (by decide) ?_
      exact q_iret hx hb hret hlk hN hI (by subst hR; exact ⟨rfl, rfl, rfl⟩) dX10_blockOf_163
    rw [if_neg h8] at hR
    refine lv_tableOut (tgt := 161) hx hb dX10_blockOf_17 (q_tbl (n := 6) (by decide) (fun j hj => by
      have hj2 : j = 0 ∨ j = 1 ∨ j = 2 ∨ j = 3 ∨ j = 4 ∨ j = 5 ∨ j = 6 := by omega
      rcases hj2 with rfl | rfl | rfl | rfl | rfl | rfl | rfl
      · exact h2
      · exact h3
      · exact h4
      · exact h5
      · exact h6
      · exact h7
      · exact h8)) (by decide) ?_
    refine lv_bipush (v := (-2)) hx hb dX10_blockOf_161 (by decide) ?_
    exact q_iret hx hb hret hlk hN hI (by subst hR; exact ⟨rfl, rfl, rfl⟩) dX10_blockOf_163
  · rw [if_pos c1] at hR
    refine lv_iconst (v := (-1)) hx hb dX10_blockOf_14 (by decide) ?_
    exact q_iret hx hb hret hlk hN hI (by subst hR; exact ⟨rfl, rfl, rfl⟩) dX10_blockOf_15
def s_X10_treeOf (f : (Int32 × Int32)) (q : qQV) (p1 : Int32) (p2 : Int32) : Int32 := (if (qbi (s_X1_isThere q.1 p1)) = 0 then (-1) else (if p2 = 0 then s_X10_orNothing  (s_X8_leftOf q.2.1 p1) else (if p2 = 1 then s_X10_orNothing  (s_X8_rightOf q.2.1 p1) else (if p2 = 2 then s_X10_orNothing  (s_X8_upperOf q.2.1 p1) else (if p2 = 3 then s_X10_orNothing  (s_X8_headOf q.2.1 p1) else (if p2 = 4 then s_X8_countAbove q.2.1 p1 else (if p2 = 5 then s_X8_countBelow q.2.1 p1 else (if p2 = 6 then s_X5_weightBelow q p1 else (-2)))))))))
set_option maxHeartbeats 4000000 in
set_option maxRecDepth 20000 in
theorem c_X10_treeOf (l : Launch) (D : va_G) (cs : qC) {M0 : qM} {N a : Nat} {f : (Int32 × Int32)} {q : qQV} (hL0 : qLX cs M0 a f) (hL1 : qLQ cs M0 (a + 1) q) (p1 : Int32) (p2 : Int32) :
    qMet l D cs yX10_treeOf (qws yX10_treeOf cX10_treeOf 3 (some .int)) ({ frames := 4, cells := 0, slots := 0, locals := 90 } : Room) M0 N [.ref a, .int p1, .int p2] (qRet M0 N (.int (s_X10_treeOf f q p1 p2))) 0 0 := by
  obtain ⟨R, hR⟩ : ∃ R, s_X10_treeOf f q p1 p2 = R := ⟨_, rfl⟩
  rw [hR]
  rw [s_X10_treeOf] at hR
  refine q_head (by decide +kernel) ?_ (Nat.le_of_ble_eq_true rfl)
  intro p e s m below meth c ls hx hb hret hlk hml hown hnm hg hK hN hI hl
  have hl : lv_has ls 3 [(0, .ref a), (1, .int p1), (2, .int p2)] := hl
  refine lv_aload_n hx hb dX10_treeOf_0 rfl (lv_at hl 0 rfl) ?_
  refine q_get hx hb hg in_X10 hown hK hI hL0 rfl 0 (by decide) (hg _ wf_X10_10) (fun _ h9 => h9) rfl dX10_treeOf_1 ?_
  refine q_getN hx hb hg in_X5 hown hK hI hL1.1 rfl 0 (by decide) (hK.2 _ (List.mem_of_getElem? (i := 12) rfl)) (fun _ h9 => h9) rfl dX10_treeOf_4 ?_
  refine lv_iload_n hx hb dX10_treeOf_7 rfl (lv_at hl 1 rfl) ?_
  refine q_goR (q_runV (As := [.int p1]) (rest := []) hx hb hml hown hg (c_X1_isThere l D cs hL1.2.1 p1) v_X1_isThere wl_X10_143 rfl rfl ⟨Nat.le_of_ble_eq_true rfl, Nat.le_of_ble_eq_true rfl⟩ hI hK 2 hL1.2.1.1 rfl hl.1 rfl rfl (Nat.le_of_ble_eq_true rfl) dX10_treeOf_8 ⟨Nat.le_of_ble_eq_true rfl, Nat.le_of_ble_eq_true rfl⟩) hI (fun H locs hI => ?_)
  refine lv_if_ne (tgt := 16) hx hb dX10_treeOf_11 (by decide) (fun c1 => ?_) (fun c1 => ?_)
  · rw [if_neg c1] at hR
    refine lv_iload_n hx hb dX10_treeOf_16 rfl (lv_at hl 2 rfl) ?_
    by_cases h2 : p2 = 0
    · rw [if_pos h2] at hR
      refine lv_tableIn (off := 43) (tgt := 60) hx hb dX10_treeOf_17 (by rw [h2]; decide) (by rw [h2]; decide) (by rw [h2]; decide) (by decide) ?_
      refine lv_aload_n hx hb dX10_treeOf_60 rfl (lv_at hl 0 rfl) ?_
      refine q_get hx hb hg in_X10 hown hK hI hL0 rfl 0 (by decide) (hg _ wf_X10_10) (fun _ h9 => h9) rfl dX10_treeOf_61 ?_
      refine q_getN hx hb hg in_X5 hown hK hI hL1.1 rfl 1 (by decide) (hK.2 _ (List.mem_of_getElem? (i := 13) rfl)) (fun _ h9 => h9) rfl dX10_treeOf_64 ?_
      refine lv_iload_n hx hb dX10_treeOf_67 rfl (lv_at hl 1 rfl) ?_
      refine q_goR (q_runV (As := [.int p1]) (rest := []) hx hb hml hown hg (c_X8_leftOf l D cs hL1.2.2.1 p1) v_X8_leftOf wl_X10_181 rfl rfl ⟨Nat.le_of_ble_eq_true rfl, Nat.le_of_ble_eq_true rfl⟩ hI hK 9 hL1.2.2.1.1 rfl hl.1 rfl rfl (Nat.le_of_ble_eq_true rfl) dX10_treeOf_68 ⟨Nat.le_of_ble_eq_true rfl, Nat.le_of_ble_eq_true rfl⟩) hI (fun H locs hI => ?_)
      refine q_goR (q_runS (As := [.int (s_X8_leftOf q.2.1 p1)]) (rest := []) hx hb hml hown hg (c_X10_orNothing l D cs (s_X8_leftOf q.2.1 p1)) v_X10_orNothing wl_X10_153 rfl rfl ⟨Nat.le_of_ble_eq_true rfl, Nat.le_of_ble_eq_true rfl⟩ hI hK hl.1 rfl rfl (Nat.le_of_ble_eq_true rfl) dX10_treeOf_71 ⟨Nat.le_of_ble_eq_true rfl, Nat.le_of_ble_eq_true rfl⟩) hI (fun H locs hI => ?_)
      refine lv_goto (tgt := 169) hx hb dX10_treeOf_74 (by decide) ?_
      exact q_iret hx hb hret hlk hN hI (by subst hR; exact ⟨rfl, rfl, rfl⟩) dX10_treeOf_169
    rw [if_neg h2] at hR
    by_cases h3 : p2 = 1
    · rw [if_pos h3] at hR
      refine lv_tableIn (off := 60) (tgt := 77) hx hb dX10_treeOf_17 (by rw [h3]; decide) (by rw [h3]; decide) (by rw [h3]; decide) (by decide) ?_
      refine lv_aload_n hx hb dX10_treeOf_77 rfl (lv_at hl 0 rfl) ?_
      refine q_get hx hb hg in_X10 hown hK hI hL0 rfl 0 (by decide) (hg _ wf_X10_10) (fun _ h9 => h9) rfl dX10_treeOf_78 ?_
      refine q_getN hx hb hg in_X5 hown hK hI hL1.1 rfl 1 (by decide) (hK.2 _ (List.mem_of_getElem? (i := 13) rfl)) (fun _ h9 => h9) rfl dX10_treeOf_81 ?_
      refine lv_iload_n hx hb dX10_treeOf_84 rfl (lv_at hl 1 rfl) ?_
      refine q_goR (q_runV (As := [.int p1]) (rest := []) hx hb hml hown hg (c_X8_rightOf l D cs hL1.2.2.1 p1) v_X8_rightOf wl_X10_186 rfl rfl ⟨Nat.le_of_ble_eq_true rfl, Nat.le_of_ble_eq_true rfl⟩ hI hK 9 hL1.2.2.1.1 rfl hl.1 rfl rfl (Nat.le_of_ble_eq_true rfl) dX10_treeOf_85 ⟨Nat.le_of_ble_eq_true rfl, Nat.le_of_ble_eq_true rfl⟩) hI (fun H locs hI => ?_)
      refine q_goR (q_runS (As := [.int (s_X8_rightOf q.2.1 p1)]) (rest := []) hx hb hml hown hg (c_X10_orNothing l D cs (s_X8_rightOf q.2.1 p1)) v_X10_orNothing wl_X10_153 rfl rfl ⟨Nat.le_of_ble_eq_true rfl, Nat.le_of_ble_eq_true rfl⟩ hI hK hl.1 rfl rfl (Nat.le_of_ble_eq_true rfl) dX10_treeOf_88 ⟨Nat.le_of_ble_eq_true rfl, Nat.le_of_ble_eq_true rfl⟩) hI (fun H locs hI => ?_)
      refine lv_goto (tgt := 169) hx hb dX10_treeOf_91 (by decide) ?_
      exact q_iret hx hb hret hlk hN hI (by subst hR; exact ⟨rfl, rfl, rfl⟩) dX10_treeOf_169
    rw [if_neg h3] at hR
    by_cases h4 : p2 = 2
    · rw [if_pos h4] at hR
      refine lv_tableIn (off := 77) (tgt := 94) hx hb dX10_treeOf_17 (by rw [h4]; decide) (by rw [h4]; decide) (by rw [h4]; decide) (by decide) ?_
      refine lv_aload_n hx hb dX10_treeOf_94 rfl (lv_at hl 0 rfl) ?_
      refine q_get hx hb hg in_X10 hown hK hI hL0 rfl 0 (by decide) (hg _ wf_X10_10) (fun _ h9 => h9) rfl dX10_treeOf_95 ?_
      refine q_getN hx hb hg in_X5 hown hK hI hL1.1 rfl 1 (by decide) (hK.2 _ (List.mem_of_getElem? (i := 13) rfl)) (fun _ h9 => h9) rfl dX10_treeOf_98 ?_
      refine lv_iload_n hx hb dX10_treeOf_101 rfl (lv_at hl 1 rfl) ?_
      refine q_goR (q_runV (As := [.int p1]) (rest := []) hx hb hml hown hg (c_X8_upperOf l D cs hL1.2.2.1 p1) v_X8_upperOf wl_X10_189 rfl rfl ⟨Nat.le_of_ble_eq_true rfl, Nat.le_of_ble_eq_true rfl⟩ hI hK 9 hL1.2.2.1.1 rfl hl.1 rfl rfl (Nat.le_of_ble_eq_true rfl) dX10_treeOf_102 ⟨Nat.le_of_ble_eq_true rfl, Nat.le_of_ble_eq_true rfl⟩) hI (fun H locs hI => ?_)
      refine q_goR (q_runS (As := [.int (s_X8_upperOf q.2.1 p1)]) (rest := []) hx hb hml hown hg (c_X10_orNothing l D cs (s_X8_upperOf q.2.1 p1)) v_X10_orNothing wl_X10_153 rfl rfl ⟨Nat.le_of_ble_eq_true rfl, Nat.le_of_ble_eq_true rfl⟩ hI hK hl.1 rfl rfl (Nat.le_of_ble_eq_true rfl) dX10_treeOf_105 ⟨Nat.le_of_ble_eq_true rfl, Nat.le_of_ble_eq_true rfl⟩) hI (fun H locs hI => ?_)
      refine lv_goto (tgt := 169) hx hb dX10_treeOf_108 (by decide) ?_
      exact q_iret hx hb hret hlk hN hI (by subst hR; exact ⟨rfl, rfl, rfl⟩) dX10_treeOf_169
    rw [if_neg h4] at hR
    by_cases h5 : p2 = 3
    · rw [if_pos h5] at hR
      refine lv_tableIn (off := 94) (tgt := 111) hx hb dX10_treeOf_17 (by rw [h5]; decide) (by rw [h5]; decide) (by rw [h5]; decide) (by decide) ?_
      refine lv_aload_n hx hb dX10_treeOf_111 rfl (lv_at hl 0 rfl) ?_
      refine q_get hx hb hg in_X10 hown hK hI hL0 rfl 0 (by decide) (hg _ wf_X10_10) (fun _ h9 => h9) rfl dX10_treeOf_112 ?_
      refine q_getN hx hb hg in_X5 hown hK hI hL1.1 rfl 1 (by decide) (hK.2 _ (List.mem_of_getElem? (i := 13) rfl)) (fun _ h9 => h9) rfl dX10_treeOf_115 ?_
      refine lv_iload_n hx hb dX10_treeOf_118 rfl (lv_at hl 1 rfl) ?_
      refine q_goR (q_runV (As := [.int p1]) (rest := []) hx hb hml hown hg (c_X8_headOf l D cs hL1.2.2.1 p1) v_X8_headOf wl_X10_192 rfl rfl ⟨Nat.le_of_ble_eq_true rfl, Nat.le_of_ble_eq_true rfl⟩ hI hK 9 hL1.2.2.1.1 rfl hl.1 rfl rfl (Nat.le_of_ble_eq_true rfl) dX10_treeOf_119 ⟨Nat.le_of_ble_eq_true rfl, Nat.le_of_ble_eq_true rfl⟩) hI (fun H locs hI => ?_)
      refine q_goR (q_runS (As := [.int (s_X8_headOf q.2.1 p1)]) (rest := []) hx hb hml hown hg (c_X10_orNothing l D cs (s_X8_headOf q.2.1 p1)) v_X10_orNothing wl_X10_153 rfl rfl ⟨Nat.le_of_ble_eq_true rfl, Nat.le_of_ble_eq_true rfl⟩ hI hK hl.1 rfl rfl (Nat.le_of_ble_eq_true rfl) dX10_treeOf_122 ⟨Nat.le_of_ble_eq_true rfl, Nat.le_of_ble_eq_true rfl⟩) hI (fun H locs hI => ?_)
      refine lv_goto (tgt := 169) hx hb dX10_treeOf_125 (by decide) ?_
      exact q_iret hx hb hret hlk hN hI (by subst hR; exact ⟨rfl, rfl, rfl⟩) dX10_treeOf_169
    rw [if_neg h5] at hR
    by_cases h6 : p2 = 4
    · rw [if_pos h6] at hR
      refine lv_tableIn (off := 111) (tgt := 128) hx hb dX10_treeOf_17 (by rw [h6]; decide) (by rw [h6]; decide) (by rw [h6]; decide) (by decide) ?_
      refine lv_aload_n hx hb dX10_treeOf_128 rfl (lv_at hl 0 rfl) ?_
      refine q_get hx hb hg in_X10 hown hK hI hL0 rfl 0 (by decide) (hg _ wf_X10_10) (fun _ h9 => h9) rfl dX10_treeOf_129 ?_
      refine q_getN hx hb hg in_X5 hown hK hI hL1.1 rfl 1 (by decide) (hK.2 _ (List.mem_of_getElem? (i := 13) rfl)) (fun _ h9 => h9) rfl dX10_treeOf_132 ?_
      refine lv_iload_n hx hb dX10_treeOf_135 rfl (lv_at hl 1 rfl) ?_
      refine q_goR (q_runV (As := [.int p1]) (rest := []) hx hb hml hown hg (c_X8_countAbove l D cs hL1.2.2.1 p1) v_X8_countAbove wl_X10_195 rfl rfl ⟨Nat.le_of_ble_eq_true rfl, Nat.le_of_ble_eq_true rfl⟩ hI hK 9 hL1.2.2.1.1 rfl hl.1 rfl rfl (Nat.le_of_ble_eq_true rfl) dX10_treeOf_136 ⟨Nat.le_of_ble_eq_true rfl, Nat.le_of_ble_eq_true rfl⟩) hI (fun H locs hI => ?_)
      refine lv_goto (tgt := 169) hx hb dX10_treeOf_139 (by decide) ?_
      exact q_iret hx hb hret hlk hN hI (by subst hR; exact ⟨rfl, rfl, rfl⟩) dX10_treeOf_169
    rw [if_neg h6] at hR
    by_cases h7 : p2 = 5
    · rw [if_pos h7] at hR
      refine lv_tableIn (off := 125) (tgt := 142) hx hb dX10_treeOf_17 (by rw [h7]; decide) (by rw [h7]; decide) (by rw [h7]; decide) (by decide) ?_
      refine lv_aload_n hx hb dX10_treeOf_142 rfl (lv_at hl 0 rfl) ?_
      refine q_get hx hb hg in_X10 hown hK hI hL0 rfl 0 (by decide) (hg _ wf_X10_10) (fun _ h9 => h9) rfl dX10_treeOf_143 ?_
      refine q_getN hx hb hg in_X5 hown hK hI hL1.1 rfl 1 (by decide) (hK.2 _ (List.mem_of_getElem? (i := 13) rfl)) (fun _ h9 => h9) rfl dX10_treeOf_146 ?_
      refine lv_iload_n hx hb dX10_treeOf_149 rfl (lv_at hl 1 rfl) ?_
      refine q_goR (q_runV (As := [.int p1]) (rest := []) hx hb hml hown hg (c_X8_countBelow l D cs hL1.2.2.1 p1) v_X8_countBelow wl_X10_198 rfl rfl ⟨Nat.le_of_ble_eq_true rfl, Nat.le_of_ble_eq_true rfl⟩ hI hK 9 hL1.2.2.1.1 rfl hl.1 rfl rfl (Nat.le_of_ble_eq_true rfl) dX10_treeOf_150 ⟨Nat.le_of_ble_eq_true rfl, Nat.le_of_ble_eq_true rfl⟩) hI (fun H locs hI => ?_)
      refine lv_goto (tgt := 169) hx hb dX10_treeOf_153 (by decide) ?_
      exact q_iret hx hb hret hlk hN hI (by subst hR; exact ⟨rfl, rfl, rfl⟩) dX10_treeOf_169
    rw [if_neg h7] at hR
    by_cases h8 : p2 = 6
    · rw [if_pos h8] at hR
      refine lv_tableIn (off := 139) (tgt := 156) hx hb dX10_treeOf_17 (by rw [h8]; decide) (by rw [h8]; decide) (by rw [h8]; decide) (by decide) ?_
      refine lv_aload_n hx hb dX10_treeOf_156 rfl (lv_at hl 0 rfl) ?_
      refine q_get hx hb hg in_X10 hown hK hI hL0 rfl 0 (by decide) (hg _ wf_X10_10) (fun _ h9 => h9) rfl dX10_treeOf_157 ?_
      refine lv_iload_n hx hb dX10_treeOf_160 rfl (lv_at hl 1 rfl) ?_
      refine q_goR (q_runV (As := [.int p1]) (rest := []) hx hb hml hown hg (c_X5_weightBelow l D cs hL1 p1) v_X5_weightBelow wl_X10_201 rfl rfl ⟨Nat.le_of_ble_eq_true rfl, Nat.le_of_ble_eq_true rfl⟩ hI hK 6 hL1.1 rfl hl.1 rfl rfl (Nat.le_of_ble_eq_true rfl) dX10_treeOf_161 ⟨Nat.le_of_ble_eq_true rfl, Nat.le_of_ble_eq_true rfl⟩) hI (fun H locs hI => ?_)
      refine lv_goto (tgt := 169) hx hb dX10_treeOf_164 (by decide) ?_
      exact q_iret hx hb hret hlk hN hI (by subst hR; exact ⟨rfl, rfl, rfl⟩) dX10_treeOf_169
    rw [if_neg h8] at hR
    refine lv_tableOut (tgt := 167) hx hb dX10_treeOf_17 (q_tbl (n := 6) (by decide) (fun j hj => by
      have hj2 : j = 0 ∨ j = 1 ∨ j = 2 ∨ j = 3 ∨ j = 4 ∨ j = 5 ∨ j = 6 := by omega
      rcases hj2 with rfl | rfl | rfl | rfl | rfl | rfl | rfl
      · exact h2
      · exact h3
      · exact h4
      · exact h5
      · exact h6
      · exact h7
      · exact h8)) (by decide) ?_
    refine lv_bipush (v := (-2)) hx hb dX10_treeOf_167 (by decide) ?_
    exact q_iret hx hb hret hlk hN hI (by subst hR; exact ⟨rfl, rfl, rfl⟩) dX10_treeOf_169
  · rw [if_pos c1] at hR
    refine lv_iconst (v := (-1)) hx hb dX10_treeOf_14 (by decide) ?_
    exact q_iret hx hb hret hlk hN hI (by subst hR; exact ⟨rfl, rfl, rfl⟩) dX10_treeOf_15
def s_X10_ropeOf (f : (Int32 × Int32)) (q : qQV) (p1 : Int32) (p2 : Int32) : Int32 := (if (qbi (s_X1_isThere q.1 p1)) = 0 then (-1) else s_X8_blockAt q.2.1 p1 p2)
set_option maxHeartbeats 4000000 in
set_option maxRecDepth 20000 in
theorem c_X10_ropeOf (l : Launch) (D : va_G) (cs : qC) {M0 : qM} {N a : Nat} {f : (Int32 × Int32)} {q : qQV} (hL0 : qLX cs M0 a f) (hL1 : qLQ cs M0 (a + 1) q) (p1 : Int32) (p2 : Int32) :
    qMet l D cs yX10_ropeOf (qws yX10_ropeOf cX10_ropeOf 3 (some .int)) ({ frames := 5, cells := 0, slots := 0, locals := 116 } : Room) M0 N [.ref a, .int p1, .int p2] (qRet M0 N (.int (s_X10_ropeOf f q p1 p2))) 0 0 := by
  obtain ⟨R, hR⟩ : ∃ R, s_X10_ropeOf f q p1 p2 = R := ⟨_, rfl⟩
  rw [hR]
  rw [s_X10_ropeOf] at hR
  refine q_head (by decide +kernel) ?_ (Nat.le_of_ble_eq_true rfl)
  intro p e s m below meth c ls hx hb hret hlk hml hown hnm hg hK hN hI hl
  have hl : lv_has ls 3 [(0, .ref a), (1, .int p1), (2, .int p2)] := hl
  refine lv_aload_n hx hb dX10_ropeOf_0 rfl (lv_at hl 0 rfl) ?_
  refine q_get hx hb hg in_X10 hown hK hI hL0 rfl 0 (by decide) (hg _ wf_X10_10) (fun _ h9 => h9) rfl dX10_ropeOf_1 ?_
  refine q_getN hx hb hg in_X5 hown hK hI hL1.1 rfl 0 (by decide) (hK.2 _ (List.mem_of_getElem? (i := 12) rfl)) (fun _ h9 => h9) rfl dX10_ropeOf_4 ?_
  refine lv_iload_n hx hb dX10_ropeOf_7 rfl (lv_at hl 1 rfl) ?_
  refine q_goR (q_runV (As := [.int p1]) (rest := []) hx hb hml hown hg (c_X1_isThere l D cs hL1.2.1 p1) v_X1_isThere wl_X10_143 rfl rfl ⟨Nat.le_of_ble_eq_true rfl, Nat.le_of_ble_eq_true rfl⟩ hI hK 2 hL1.2.1.1 rfl hl.1 rfl rfl (Nat.le_of_ble_eq_true rfl) dX10_ropeOf_8 ⟨Nat.le_of_ble_eq_true rfl, Nat.le_of_ble_eq_true rfl⟩) hI (fun H locs hI => ?_)
  refine lv_if_eq (tgt := 29) hx hb dX10_ropeOf_11 (by decide) (fun c1 => ?_) (fun c1 => ?_)
  · rw [if_pos c1] at hR
    refine lv_iconst (v := (-1)) hx hb dX10_ropeOf_29 (by decide) ?_
    exact q_iret hx hb hret hlk hN hI (by subst hR; exact ⟨rfl, rfl, rfl⟩) dX10_ropeOf_30
  · rw [if_neg c1] at hR
    refine lv_aload_n hx hb dX10_ropeOf_14 rfl (lv_at hl 0 rfl) ?_
    refine q_get hx hb hg in_X10 hown hK hI hL0 rfl 0 (by decide) (hg _ wf_X10_10) (fun _ h9 => h9) rfl dX10_ropeOf_15 ?_
    refine q_getN hx hb hg in_X5 hown hK hI hL1.1 rfl 1 (by decide) (hK.2 _ (List.mem_of_getElem? (i := 13) rfl)) (fun _ h9 => h9) rfl dX10_ropeOf_18 ?_
    refine lv_iload_n hx hb dX10_ropeOf_21 rfl (lv_at hl 1 rfl) ?_
    refine lv_iload_n hx hb dX10_ropeOf_22 rfl (lv_at hl 2 rfl) ?_
    refine q_goR (q_runV (As := [.int p1, .int p2]) (rest := []) hx hb hml hown hg (c_X8_blockAt l D cs hL1.2.2.1 p1 p2) v_X8_blockAt wl_X10_204 rfl rfl ⟨Nat.le_of_ble_eq_true rfl, Nat.le_of_ble_eq_true rfl⟩ hI hK 9 hL1.2.2.1.1 rfl hl.1 rfl rfl (Nat.le_of_ble_eq_true rfl) dX10_ropeOf_23 ⟨Nat.le_of_ble_eq_true rfl, Nat.le_of_ble_eq_true rfl⟩) hI (fun H locs hI => ?_)
    refine lv_goto (tgt := 30) hx hb dX10_ropeOf_26 (by decide) ?_
    exact q_iret hx hb hret hlk hN hI (by subst hR; exact ⟨rfl, rfl, rfl⟩) dX10_ropeOf_30
def s_X10_placeOf (f : (Int32 × Int32)) (q : qQV) (p1 : Int32) : Int32 := (if (qbi (s_X1_isThere q.1 p1)) = 0 then (-1) else s_X8_countAhead q.2.1 p1)
set_option maxHeartbeats 4000000 in
set_option maxRecDepth 20000 in
theorem c_X10_placeOf (l : Launch) (D : va_G) (cs : qC) {M0 : qM} {N a : Nat} {f : (Int32 × Int32)} {q : qQV} (hL0 : qLX cs M0 a f) (hL1 : qLQ cs M0 (a + 1) q) (p1 : Int32) :
    qMet l D cs yX10_placeOf (qws yX10_placeOf cX10_placeOf 2 (some .int)) ({ frames := 5, cells := 0, slots := 0, locals := 115 } : Room) M0 N [.ref a, .int p1] (qRet M0 N (.int (s_X10_placeOf f q p1))) 0 0 := by
  obtain ⟨R, hR⟩ : ∃ R, s_X10_placeOf f q p1 = R := ⟨_, rfl⟩
  rw [hR]
  rw [s_X10_placeOf] at hR
  refine q_head (by decide +kernel) ?_ (Nat.le_of_ble_eq_true rfl)
  intro p e s m below meth c ls hx hb hret hlk hml hown hnm hg hK hN hI hl
  have hl : lv_has ls 2 [(0, .ref a), (1, .int p1)] := hl
  refine lv_aload_n hx hb dX10_placeOf_0 rfl (lv_at hl 0 rfl) ?_
  refine q_get hx hb hg in_X10 hown hK hI hL0 rfl 0 (by decide) (hg _ wf_X10_10) (fun _ h9 => h9) rfl dX10_placeOf_1 ?_
  refine q_getN hx hb hg in_X5 hown hK hI hL1.1 rfl 0 (by decide) (hK.2 _ (List.mem_of_getElem? (i := 12) rfl)) (fun _ h9 => h9) rfl dX10_placeOf_4 ?_
  refine lv_iload_n hx hb dX10_placeOf_7 rfl (lv_at hl 1 rfl) ?_
  refine q_goR (q_runV (As := [.int p1]) (rest := []) hx hb hml hown hg (c_X1_isThere l D cs hL1.2.1 p1) v_X1_isThere wl_X10_143 rfl rfl ⟨Nat.le_of_ble_eq_true rfl, Nat.le_of_ble_eq_true rfl⟩ hI hK 2 hL1.2.1.1 rfl hl.1 rfl rfl (Nat.le_of_ble_eq_true rfl) dX10_placeOf_8 ⟨Nat.le_of_ble_eq_true rfl, Nat.le_of_ble_eq_true rfl⟩) hI (fun H locs hI => ?_)
  refine lv_if_eq (tgt := 28) hx hb dX10_placeOf_11 (by decide) (fun c1 => ?_) (fun c1 => ?_)
  · rw [if_pos c1] at hR
    refine lv_iconst (v := (-1)) hx hb dX10_placeOf_28 (by decide) ?_
    exact q_iret hx hb hret hlk hN hI (by subst hR; exact ⟨rfl, rfl, rfl⟩) dX10_placeOf_29
  · rw [if_neg c1] at hR
    refine lv_aload_n hx hb dX10_placeOf_14 rfl (lv_at hl 0 rfl) ?_
    refine q_get hx hb hg in_X10 hown hK hI hL0 rfl 0 (by decide) (hg _ wf_X10_10) (fun _ h9 => h9) rfl dX10_placeOf_15 ?_
    refine q_getN hx hb hg in_X5 hown hK hI hL1.1 rfl 1 (by decide) (hK.2 _ (List.mem_of_getElem? (i := 13) rfl)) (fun _ h9 => h9) rfl dX10_placeOf_18 ?_
    refine lv_iload_n hx hb dX10_placeOf_21 rfl (lv_at hl 1 rfl) ?_
    refine q_goR (q_runV (As := [.int p1]) (rest := []) hx hb hml hown hg (c_X8_countAhead l D cs hL1.2.2.1 p1) v_X8_countAhead wl_X10_207 rfl rfl ⟨Nat.le_of_ble_eq_true rfl, Nat.le_of_ble_eq_true rfl⟩ hI hK 9 hL1.2.2.1.1 rfl hl.1 rfl rfl (Nat.le_of_ble_eq_true rfl) dX10_placeOf_22 ⟨Nat.le_of_ble_eq_true rfl, Nat.le_of_ble_eq_true rfl⟩) hI (fun H locs hI => ?_)
    refine lv_goto (tgt := 29) hx hb dX10_placeOf_25 (by decide) ?_
    exact q_iret hx hb hret hlk hN hI (by subst hR; exact ⟨rfl, rfl, rfl⟩) dX10_placeOf_29
def s_X10_ropes (f : (Int32 × Int32)) (q : qQV)  : Int32 := s_X5_countRopes q
set_option maxHeartbeats 4000000 in
set_option maxRecDepth 20000 in
theorem c_X10_ropes (l : Launch) (D : va_G) (cs : qC) {M0 : qM} {N a : Nat} {f : (Int32 × Int32)} {q : qQV} (hL0 : qLX cs M0 a f) (hL1 : qLQ cs M0 (a + 1) q) :
    qMet l D cs yX10_ropes (qws yX10_ropes cX10_ropes 1 (some .int)) ({ frames := 3, cells := 0, slots := 0, locals := 64 } : Room) M0 N [.ref a] (qRet M0 N (.int (s_X10_ropes f q))) 0 0 := by
  obtain ⟨R, hR⟩ : ∃ R, s_X10_ropes f q = R := ⟨_, rfl⟩
  rw [hR]
  rw [s_X10_ropes] at hR
  refine q_head (by decide +kernel) ?_ (Nat.le_of_ble_eq_true rfl)
  intro p e s m below meth c ls hx hb hret hlk hml hown hnm hg hK hN hI hl
  have hl : lv_has ls 1 [(0, .ref a)] := hl
  refine lv_aload_n hx hb dX10_ropes_0 rfl (lv_at hl 0 rfl) ?_
  refine q_get hx hb hg in_X10 hown hK hI hL0 rfl 0 (by decide) (hg _ wf_X10_10) (fun _ h9 => h9) rfl dX10_ropes_1 ?_
  refine q_goR (q_runV (As := []) (rest := []) hx hb hml hown hg (c_X5_countRopes l D cs hL1) v_X5_countRopes wl_X10_210 rfl rfl ⟨Nat.le_of_ble_eq_true rfl, Nat.le_of_ble_eq_true rfl⟩ hI hK 6 hL1.1 rfl hl.1 rfl rfl (Nat.le_of_ble_eq_true rfl) dX10_ropes_4 ⟨Nat.le_of_ble_eq_true rfl, Nat.le_of_ble_eq_true rfl⟩) hI (fun H locs hI => ?_)
  exact q_iret hx hb hret hlk hN hI (by subst hR; exact ⟨rfl, rfl, rfl⟩) dX10_ropes_7
def s_X10_ropesAbove (f : (Int32 × Int32)) (q : qQV) (p1 : Int32) : Int32 := (if (qbi (s_X1_isThere q.1 p1)) = 0 then (-1) else s_X5_countRopesUp q p1)
set_option maxHeartbeats 4000000 in
set_option maxRecDepth 20000 in
theorem c_X10_ropesAbove (l : Launch) (D : va_G) (cs : qC) {M0 : qM} {N a : Nat} {f : (Int32 × Int32)} {q : qQV} (hL0 : qLX cs M0 a f) (hL1 : qLQ cs M0 (a + 1) q) (p1 : Int32) :
    qMet l D cs yX10_ropesAbove (qws yX10_ropesAbove cX10_ropesAbove 2 (some .int)) ({ frames := 5, cells := 0, slots := 0, locals := 109 } : Room) M0 N [.ref a, .int p1] (qRet M0 N (.int (s_X10_ropesAbove f q p1))) 0 0 := by
  obtain ⟨R, hR⟩ : ∃ R, s_X10_ropesAbove f q p1 = R := ⟨_, rfl⟩
  rw [hR]
  rw [s_X10_ropesAbove] at hR
  refine q_head (by decide +kernel) ?_ (Nat.le_of_ble_eq_true rfl)
  intro p e s m below meth c ls hx hb hret hlk hml hown hnm hg hK hN hI hl
  have hl : lv_has ls 2 [(0, .ref a), (1, .int p1)] := hl
  refine lv_aload_n hx hb dX10_ropesAbove_0 rfl (lv_at hl 0 rfl) ?_
  refine q_get hx hb hg in_X10 hown hK hI hL0 rfl 0 (by decide) (hg _ wf_X10_10) (fun _ h9 => h9) rfl dX10_ropesAbove_1 ?_
  refine q_getN hx hb hg in_X5 hown hK hI hL1.1 rfl 0 (by decide) (hK.2 _ (List.mem_of_getElem? (i := 12) rfl)) (fun _ h9 => h9) rfl dX10_ropesAbove_4 ?_
  refine lv_iload_n hx hb dX10_ropesAbove_7 rfl (lv_at hl 1 rfl) ?_
  refine q_goR (q_runV (As := [.int p1]) (rest := []) hx hb hml hown hg (c_X1_isThere l D cs hL1.2.1 p1) v_X1_isThere wl_X10_143 rfl rfl ⟨Nat.le_of_ble_eq_true rfl, Nat.le_of_ble_eq_true rfl⟩ hI hK 2 hL1.2.1.1 rfl hl.1 rfl rfl (Nat.le_of_ble_eq_true rfl) dX10_ropesAbove_8 ⟨Nat.le_of_ble_eq_true rfl, Nat.le_of_ble_eq_true rfl⟩) hI (fun H locs hI => ?_)
  refine lv_if_eq (tgt := 25) hx hb dX10_ropesAbove_11 (by decide) (fun c1 => ?_) (fun c1 => ?_)
  · rw [if_pos c1] at hR
    refine lv_iconst (v := (-1)) hx hb dX10_ropesAbove_25 (by decide) ?_
    exact q_iret hx hb hret hlk hN hI (by subst hR; exact ⟨rfl, rfl, rfl⟩) dX10_ropesAbove_26
  · rw [if_neg c1] at hR
    refine lv_aload_n hx hb dX10_ropesAbove_14 rfl (lv_at hl 0 rfl) ?_
    refine q_get hx hb hg in_X10 hown hK hI hL0 rfl 0 (by decide) (hg _ wf_X10_10) (fun _ h9 => h9) rfl dX10_ropesAbove_15 ?_
    refine lv_iload_n hx hb dX10_ropesAbove_18 rfl (lv_at hl 1 rfl) ?_
    refine q_goR (q_runV (As := [.int p1]) (rest := []) hx hb hml hown hg (c_X5_countRopesUp l D cs hL1 p1) v_X5_countRopesUp wl_X10_214 rfl rfl ⟨Nat.le_of_ble_eq_true rfl, Nat.le_of_ble_eq_true rfl⟩ hI hK 6 hL1.1 rfl hl.1 rfl rfl (Nat.le_of_ble_eq_true rfl) dX10_ropesAbove_19 ⟨Nat.le_of_ble_eq_true rfl, Nat.le_of_ble_eq_true rfl⟩) hI (fun H locs hI => ?_)
    refine lv_goto (tgt := 26) hx hb dX10_ropesAbove_22 (by decide) ?_
    exact q_iret hx hb hret hlk hN hI (by subst hR; exact ⟨rfl, rfl, rfl⟩) dX10_ropesAbove_26
def s_X10_sum (f : (Int32 × Int32)) (q : qQV) (p1 : Int32) : Int32 := (if (qbi (s_X1_isThere q.1 p1)) = 0 then (-1) else s_X5_sumByRopes q p1)
set_option maxHeartbeats 4000000 in
set_option maxRecDepth 20000 in
theorem c_X10_sum (l : Launch) (D : va_G) (cs : qC) {M0 : qM} {N a : Nat} {f : (Int32 × Int32)} {q : qQV} (hL0 : qLX cs M0 a f) (hL1 : qLQ cs M0 (a + 1) q) (p1 : Int32) :
    qMet l D cs yX10_sum (qws yX10_sum cX10_sum 2 (some .int)) ({ frames := 6, cells := 0, slots := 0, locals := 139 } : Room) M0 N [.ref a, .int p1] (qRet M0 N (.int (s_X10_sum f q p1))) 0 0 := by
  obtain ⟨R, hR⟩ : ∃ R, s_X10_sum f q p1 = R := ⟨_, rfl⟩
  rw [hR]
  rw [s_X10_sum] at hR
  refine q_head (by decide +kernel) ?_ (Nat.le_of_ble_eq_true rfl)
  intro p e s m below meth c ls hx hb hret hlk hml hown hnm hg hK hN hI hl
  have hl : lv_has ls 2 [(0, .ref a), (1, .int p1)] := hl
  refine lv_aload_n hx hb dX10_sum_0 rfl (lv_at hl 0 rfl) ?_
  refine q_get hx hb hg in_X10 hown hK hI hL0 rfl 0 (by decide) (hg _ wf_X10_10) (fun _ h9 => h9) rfl dX10_sum_1 ?_
  refine q_getN hx hb hg in_X5 hown hK hI hL1.1 rfl 0 (by decide) (hK.2 _ (List.mem_of_getElem? (i := 12) rfl)) (fun _ h9 => h9) rfl dX10_sum_4 ?_
  refine lv_iload_n hx hb dX10_sum_7 rfl (lv_at hl 1 rfl) ?_
  refine q_goR (q_runV (As := [.int p1]) (rest := []) hx hb hml hown hg (c_X1_isThere l D cs hL1.2.1 p1) v_X1_isThere wl_X10_143 rfl rfl ⟨Nat.le_of_ble_eq_true rfl, Nat.le_of_ble_eq_true rfl⟩ hI hK 2 hL1.2.1.1 rfl hl.1 rfl rfl (Nat.le_of_ble_eq_true rfl) dX10_sum_8 ⟨Nat.le_of_ble_eq_true rfl, Nat.le_of_ble_eq_true rfl⟩) hI (fun H locs hI => ?_)
  refine lv_if_eq (tgt := 25) hx hb dX10_sum_11 (by decide) (fun c1 => ?_) (fun c1 => ?_)
  · rw [if_pos c1] at hR
    refine lv_iconst (v := (-1)) hx hb dX10_sum_25 (by decide) ?_
    exact q_iret hx hb hret hlk hN hI (by subst hR; exact ⟨rfl, rfl, rfl⟩) dX10_sum_26
  · rw [if_neg c1] at hR
    refine lv_aload_n hx hb dX10_sum_14 rfl (lv_at hl 0 rfl) ?_
    refine q_get hx hb hg in_X10 hown hK hI hL0 rfl 0 (by decide) (hg _ wf_X10_10) (fun _ h9 => h9) rfl dX10_sum_15 ?_
    refine lv_iload_n hx hb dX10_sum_18 rfl (lv_at hl 1 rfl) ?_
    refine q_goR (q_runV (As := [.int p1]) (rest := []) hx hb hml hown hg (c_X5_sumByRopes l D cs hL1 p1) v_X5_sumByRopes wl_X10_227 rfl rfl ⟨Nat.le_of_ble_eq_true rfl, Nat.le_of_ble_eq_true rfl⟩ hI hK 6 hL1.1 rfl hl.1 rfl rfl (Nat.le_of_ble_eq_true rfl) dX10_sum_19 ⟨Nat.le_of_ble_eq_true rfl, Nat.le_of_ble_eq_true rfl⟩) hI (fun H locs hI => ?_)
    refine lv_goto (tgt := 26) hx hb dX10_sum_22 (by decide) ?_
    exact q_iret hx hb hret hlk hN hI (by subst hR; exact ⟨rfl, rfl, rfl⟩) dX10_sum_26
def s_X10_sumAgain (f : (Int32 × Int32)) (q : qQV) (p1 : Int32) : Int32 := (if (qbi (s_X1_isThere q.1 p1)) = 0 then (-1) else s_X1_sumByHolders q.1 p1)
set_option maxHeartbeats 4000000 in
set_option maxRecDepth 20000 in
theorem c_X10_sumAgain (l : Launch) (D : va_G) (cs : qC) {M0 : qM} {N a : Nat} {f : (Int32 × Int32)} {q : qQV} (hL0 : qLX cs M0 a f) (hL1 : qLQ cs M0 (a + 1) q) (p1 : Int32) :
    qMet l D cs yX10_sumAgain (qws yX10_sumAgain cX10_sumAgain 2 (some .int)) ({ frames := 3, cells := 0, slots := 0, locals := 66 } : Room) M0 N [.ref a, .int p1] (qRet M0 N (.int (s_X10_sumAgain f q p1))) 0 0 := by
  obtain ⟨R, hR⟩ : ∃ R, s_X10_sumAgain f q p1 = R := ⟨_, rfl⟩
  rw [hR]
  rw [s_X10_sumAgain] at hR
  refine q_head (by decide +kernel) ?_ (Nat.le_of_ble_eq_true rfl)
  intro p e s m below meth c ls hx hb hret hlk hml hown hnm hg hK hN hI hl
  have hl : lv_has ls 2 [(0, .ref a), (1, .int p1)] := hl
  refine lv_aload_n hx hb dX10_sumAgain_0 rfl (lv_at hl 0 rfl) ?_
  refine q_get hx hb hg in_X10 hown hK hI hL0 rfl 0 (by decide) (hg _ wf_X10_10) (fun _ h9 => h9) rfl dX10_sumAgain_1 ?_
  refine q_getN hx hb hg in_X5 hown hK hI hL1.1 rfl 0 (by decide) (hK.2 _ (List.mem_of_getElem? (i := 12) rfl)) (fun _ h9 => h9) rfl dX10_sumAgain_4 ?_
  refine lv_iload_n hx hb dX10_sumAgain_7 rfl (lv_at hl 1 rfl) ?_
  refine q_goR (q_runV (As := [.int p1]) (rest := []) hx hb hml hown hg (c_X1_isThere l D cs hL1.2.1 p1) v_X1_isThere wl_X10_143 rfl rfl ⟨Nat.le_of_ble_eq_true rfl, Nat.le_of_ble_eq_true rfl⟩ hI hK 2 hL1.2.1.1 rfl hl.1 rfl rfl (Nat.le_of_ble_eq_true rfl) dX10_sumAgain_8 ⟨Nat.le_of_ble_eq_true rfl, Nat.le_of_ble_eq_true rfl⟩) hI (fun H locs hI => ?_)
  refine lv_if_eq (tgt := 28) hx hb dX10_sumAgain_11 (by decide) (fun c1 => ?_) (fun c1 => ?_)
  · rw [if_pos c1] at hR
    refine lv_iconst (v := (-1)) hx hb dX10_sumAgain_28 (by decide) ?_
    exact q_iret hx hb hret hlk hN hI (by subst hR; exact ⟨rfl, rfl, rfl⟩) dX10_sumAgain_29
  · rw [if_neg c1] at hR
    refine lv_aload_n hx hb dX10_sumAgain_14 rfl (lv_at hl 0 rfl) ?_
    refine q_get hx hb hg in_X10 hown hK hI hL0 rfl 0 (by decide) (hg _ wf_X10_10) (fun _ h9 => h9) rfl dX10_sumAgain_15 ?_
    refine q_getN hx hb hg in_X5 hown hK hI hL1.1 rfl 0 (by decide) (hK.2 _ (List.mem_of_getElem? (i := 12) rfl)) (fun _ h9 => h9) rfl dX10_sumAgain_18 ?_
    refine lv_iload_n hx hb dX10_sumAgain_21 rfl (lv_at hl 1 rfl) ?_
    refine q_goR (q_runV (As := [.int p1]) (rest := []) hx hb hml hown hg (c_X1_sumByHolders l D cs hL1.2.1 p1) v_X1_sumByHolders wl_X10_230 rfl rfl ⟨Nat.le_of_ble_eq_true rfl, Nat.le_of_ble_eq_true rfl⟩ hI hK 2 hL1.2.1.1 rfl hl.1 rfl rfl (Nat.le_of_ble_eq_true rfl) dX10_sumAgain_22 ⟨Nat.le_of_ble_eq_true rfl, Nat.le_of_ble_eq_true rfl⟩) hI (fun H locs hI => ?_)
    refine lv_goto (tgt := 29) hx hb dX10_sumAgain_25 (by decide) ?_
    exact q_iret hx hb hret hlk hN hI (by subst hR; exact ⟨rfl, rfl, rfl⟩) dX10_sumAgain_29
def s_X10_root (f : (Int32 × Int32)) (q : qQV) (p1 : Int32) : Int32 := (if (qbi (s_X1_isThere q.1 p1)) = 0 then (-1) else s_X5_rootByTops q p1)
set_option maxHeartbeats 4000000 in
set_option maxRecDepth 20000 in
theorem c_X10_root (l : Launch) (D : va_G) (cs : qC) {M0 : qM} {N a : Nat} {f : (Int32 × Int32)} {q : qQV} (hL0 : qLX cs M0 a f) (hL1 : qLQ cs M0 (a + 1) q) (p1 : Int32) :
    qMet l D cs yX10_root (qws yX10_root cX10_root 2 (some .int)) ({ frames := 5, cells := 0, slots := 0, locals := 109 } : Room) M0 N [.ref a, .int p1] (qRet M0 N (.int (s_X10_root f q p1))) 0 0 := by
  obtain ⟨R, hR⟩ : ∃ R, s_X10_root f q p1 = R := ⟨_, rfl⟩
  rw [hR]
  rw [s_X10_root] at hR
  refine q_head (by decide +kernel) ?_ (Nat.le_of_ble_eq_true rfl)
  intro p e s m below meth c ls hx hb hret hlk hml hown hnm hg hK hN hI hl
  have hl : lv_has ls 2 [(0, .ref a), (1, .int p1)] := hl
  refine lv_aload_n hx hb dX10_root_0 rfl (lv_at hl 0 rfl) ?_
  refine q_get hx hb hg in_X10 hown hK hI hL0 rfl 0 (by decide) (hg _ wf_X10_10) (fun _ h9 => h9) rfl dX10_root_1 ?_
  refine q_getN hx hb hg in_X5 hown hK hI hL1.1 rfl 0 (by decide) (hK.2 _ (List.mem_of_getElem? (i := 12) rfl)) (fun _ h9 => h9) rfl dX10_root_4 ?_
  refine lv_iload_n hx hb dX10_root_7 rfl (lv_at hl 1 rfl) ?_
  refine q_goR (q_runV (As := [.int p1]) (rest := []) hx hb hml hown hg (c_X1_isThere l D cs hL1.2.1 p1) v_X1_isThere wl_X10_143 rfl rfl ⟨Nat.le_of_ble_eq_true rfl, Nat.le_of_ble_eq_true rfl⟩ hI hK 2 hL1.2.1.1 rfl hl.1 rfl rfl (Nat.le_of_ble_eq_true rfl) dX10_root_8 ⟨Nat.le_of_ble_eq_true rfl, Nat.le_of_ble_eq_true rfl⟩) hI (fun H locs hI => ?_)
  refine lv_if_eq (tgt := 25) hx hb dX10_root_11 (by decide) (fun c1 => ?_) (fun c1 => ?_)
  · rw [if_pos c1] at hR
    refine lv_iconst (v := (-1)) hx hb dX10_root_25 (by decide) ?_
    exact q_iret hx hb hret hlk hN hI (by subst hR; exact ⟨rfl, rfl, rfl⟩) dX10_root_26
  · rw [if_neg c1] at hR
    refine lv_aload_n hx hb dX10_root_14 rfl (lv_at hl 0 rfl) ?_
    refine q_get hx hb hg in_X10 hown hK hI hL0 rfl 0 (by decide) (hg _ wf_X10_10) (fun _ h9 => h9) rfl dX10_root_15 ?_
    refine lv_iload_n hx hb dX10_root_18 rfl (lv_at hl 1 rfl) ?_
    refine q_goR (q_runV (As := [.int p1]) (rest := []) hx hb hml hown hg (c_X5_rootByTops l D cs hL1 p1) v_X5_rootByTops wl_X10_233 rfl rfl ⟨Nat.le_of_ble_eq_true rfl, Nat.le_of_ble_eq_true rfl⟩ hI hK 6 hL1.1 rfl hl.1 rfl rfl (Nat.le_of_ble_eq_true rfl) dX10_root_19 ⟨Nat.le_of_ble_eq_true rfl, Nat.le_of_ble_eq_true rfl⟩) hI (fun H locs hI => ?_)
    refine lv_goto (tgt := 26) hx hb dX10_root_22 (by decide) ?_
    exact q_iret hx hb hret hlk hN hI (by subst hR; exact ⟨rfl, rfl, rfl⟩) dX10_root_26
def s_X10_rootAgain (f : (Int32 × Int32)) (q : qQV) (p1 : Int32) : Int32 := (if (qbi (s_X1_isThere q.1 p1)) = 0 then (-1) else s_X1_rootByHolders q.1 p1)
set_option maxHeartbeats 4000000 in
set_option maxRecDepth 20000 in
theorem c_X10_rootAgain (l : Launch) (D : va_G) (cs : qC) {M0 : qM} {N a : Nat} {f : (Int32 × Int32)} {q : qQV} (hL0 : qLX cs M0 a f) (hL1 : qLQ cs M0 (a + 1) q) (p1 : Int32) :
    qMet l D cs yX10_rootAgain (qws yX10_rootAgain cX10_rootAgain 2 (some .int)) ({ frames := 3, cells := 0, slots := 0, locals := 65 } : Room) M0 N [.ref a, .int p1] (qRet M0 N (.int (s_X10_rootAgain f q p1))) 0 0 := by
  obtain ⟨R, hR⟩ : ∃ R, s_X10_rootAgain f q p1 = R := ⟨_, rfl⟩
  rw [hR]
  rw [s_X10_rootAgain] at hR
  refine q_head (by decide +kernel) ?_ (Nat.le_of_ble_eq_true rfl)
  intro p e s m below meth c ls hx hb hret hlk hml hown hnm hg hK hN hI hl
  have hl : lv_has ls 2 [(0, .ref a), (1, .int p1)] := hl
  refine lv_aload_n hx hb dX10_rootAgain_0 rfl (lv_at hl 0 rfl) ?_
  refine q_get hx hb hg in_X10 hown hK hI hL0 rfl 0 (by decide) (hg _ wf_X10_10) (fun _ h9 => h9) rfl dX10_rootAgain_1 ?_
  refine q_getN hx hb hg in_X5 hown hK hI hL1.1 rfl 0 (by decide) (hK.2 _ (List.mem_of_getElem? (i := 12) rfl)) (fun _ h9 => h9) rfl dX10_rootAgain_4 ?_
  refine lv_iload_n hx hb dX10_rootAgain_7 rfl (lv_at hl 1 rfl) ?_
  refine q_goR (q_runV (As := [.int p1]) (rest := []) hx hb hml hown hg (c_X1_isThere l D cs hL1.2.1 p1) v_X1_isThere wl_X10_143 rfl rfl ⟨Nat.le_of_ble_eq_true rfl, Nat.le_of_ble_eq_true rfl⟩ hI hK 2 hL1.2.1.1 rfl hl.1 rfl rfl (Nat.le_of_ble_eq_true rfl) dX10_rootAgain_8 ⟨Nat.le_of_ble_eq_true rfl, Nat.le_of_ble_eq_true rfl⟩) hI (fun H locs hI => ?_)
  refine lv_if_eq (tgt := 28) hx hb dX10_rootAgain_11 (by decide) (fun c1 => ?_) (fun c1 => ?_)
  · rw [if_pos c1] at hR
    refine lv_iconst (v := (-1)) hx hb dX10_rootAgain_28 (by decide) ?_
    exact q_iret hx hb hret hlk hN hI (by subst hR; exact ⟨rfl, rfl, rfl⟩) dX10_rootAgain_29
  · rw [if_neg c1] at hR
    refine lv_aload_n hx hb dX10_rootAgain_14 rfl (lv_at hl 0 rfl) ?_
    refine q_get hx hb hg in_X10 hown hK hI hL0 rfl 0 (by decide) (hg _ wf_X10_10) (fun _ h9 => h9) rfl dX10_rootAgain_15 ?_
    refine q_getN hx hb hg in_X5 hown hK hI hL1.1 rfl 0 (by decide) (hK.2 _ (List.mem_of_getElem? (i := 12) rfl)) (fun _ h9 => h9) rfl dX10_rootAgain_18 ?_
    refine lv_iload_n hx hb dX10_rootAgain_21 rfl (lv_at hl 1 rfl) ?_
    refine q_goR (q_runV (As := [.int p1]) (rest := []) hx hb hml hown hg (c_X1_rootByHolders l D cs hL1.2.1 p1) v_X1_rootByHolders wl_X10_236 rfl rfl ⟨Nat.le_of_ble_eq_true rfl, Nat.le_of_ble_eq_true rfl⟩ hI hK 2 hL1.2.1.1 rfl hl.1 rfl rfl (Nat.le_of_ble_eq_true rfl) dX10_rootAgain_22 ⟨Nat.le_of_ble_eq_true rfl, Nat.le_of_ble_eq_true rfl⟩) hI (fun H locs hI => ?_)
    refine lv_goto (tgt := 29) hx hb dX10_rootAgain_25 (by decide) ?_
    exact q_iret hx hb hret hlk hN hI (by subst hR; exact ⟨rfl, rfl, rfl⟩) dX10_rootAgain_29
def s_X10_joint (f : (Int32 × Int32)) (q : qQV) (p1 : Int32) (p2 : Int32) : Int32 := (if (qbi (s_X1_isThere q.1 p1)) = 0 then (-1) else (if (qbi (s_X1_isThere q.1 p2)) = 0 then (-1) else s_X5_jointByRopes q p1 p2))
set_option maxHeartbeats 4000000 in
set_option maxRecDepth 20000 in
theorem c_X10_joint (l : Launch) (D : va_G) (cs : qC) {M0 : qM} {N a : Nat} {f : (Int32 × Int32)} {q : qQV} (hL0 : qLX cs M0 a f) (hL1 : qLQ cs M0 (a + 1) q) (p1 : Int32) (p2 : Int32) :
    qMet l D cs yX10_joint (qws yX10_joint cX10_joint 4 (some .int)) ({ frames := 6, cells := 0, slots := 0, locals := 142 } : Room) M0 N [.ref a, .int p1, .int p2] (qRet M0 N (.int (s_X10_joint f q p1 p2))) 0 0 := by
  obtain ⟨R, hR⟩ : ∃ R, s_X10_joint f q p1 p2 = R := ⟨_, rfl⟩
  rw [hR]
  rw [s_X10_joint] at hR
  refine q_head (by decide +kernel) ?_ (Nat.le_of_ble_eq_true rfl)
  intro p e s m below meth c ls hx hb hret hlk hml hown hnm hg hK hN hI hl
  have hl : lv_has ls 4 [(0, .ref a), (1, .int p1), (2, .int p2)] := hl
  refine lv_aload_n hx hb dX10_joint_0 rfl (lv_at hl 0 rfl) ?_
  refine q_get hx hb hg in_X10 hown hK hI hL0 rfl 0 (by decide) (hg _ wf_X10_10) (fun _ h9 => h9) rfl dX10_joint_1 ?_
  refine q_getN hx hb hg in_X5 hown hK hI hL1.1 rfl 0 (by decide) (hK.2 _ (List.mem_of_getElem? (i := 12) rfl)) (fun _ h9 => h9) rfl dX10_joint_4 ?_
  refine lv_iload_n hx hb dX10_joint_7 rfl (lv_at hl 1 rfl) ?_
  refine q_goR (q_runV (As := [.int p1]) (rest := []) hx hb hml hown hg (c_X1_isThere l D cs hL1.2.1 p1) v_X1_isThere wl_X10_143 rfl rfl ⟨Nat.le_of_ble_eq_true rfl, Nat.le_of_ble_eq_true rfl⟩ hI hK 2 hL1.2.1.1 rfl hl.1 rfl rfl (Nat.le_of_ble_eq_true rfl) dX10_joint_8 ⟨Nat.le_of_ble_eq_true rfl, Nat.le_of_ble_eq_true rfl⟩) hI (fun H locs hI => ?_)
  refine lv_if_eq (tgt := 32) hx hb dX10_joint_11 (by decide) (fun c1 => ?_) (fun c1 => ?_)
  · rw [if_pos c1] at hR
    refine lv_iconst (v := 0) hx hb dX10_joint_32 (by decide) ?_
    refine lv_istore_n (lv' := [(3, .int 0), (0, .ref a), (1, .int p1), (2, .int p2)]) hx hb dX10_joint_33 rfl hl (by decide) rfl (fun ls hl => ?_)
    refine lv_iload_n hx hb dX10_joint_34 rfl (lv_at hl 0 rfl) ?_
    refine lv_if_eq (tgt := 50) hx hb dX10_joint_35 (by decide) (fun c2 => ?_) (fun c2 => absurd c2 (by decide))
    refine lv_iconst (v := (-1)) hx hb dX10_joint_50 (by decide) ?_
    exact q_iret hx hb hret hlk hN hI (by subst hR; exact ⟨rfl, rfl, rfl⟩) dX10_joint_51
  · rw [if_neg c1] at hR
    refine lv_aload_n hx hb dX10_joint_14 rfl (lv_at hl 0 rfl) ?_
    refine q_get hx hb hg in_X10 hown hK hI hL0 rfl 0 (by decide) (hg _ wf_X10_10) (fun _ h9 => h9) rfl dX10_joint_15 ?_
    refine q_getN hx hb hg in_X5 hown hK hI hL1.1 rfl 0 (by decide) (hK.2 _ (List.mem_of_getElem? (i := 12) rfl)) (fun _ h9 => h9) rfl dX10_joint_18 ?_
    refine lv_iload_n hx hb dX10_joint_21 rfl (lv_at hl 2 rfl) ?_
    refine q_goR (q_runV (As := [.int p2]) (rest := []) hx hb hml hown hg (c_X1_isThere l D cs hL1.2.1 p2) v_X1_isThere wl_X10_143 rfl rfl ⟨Nat.le_of_ble_eq_true rfl, Nat.le_of_ble_eq_true rfl⟩ hI hK 2 hL1.2.1.1 rfl hl.1 rfl rfl (Nat.le_of_ble_eq_true rfl) dX10_joint_22 ⟨Nat.le_of_ble_eq_true rfl, Nat.le_of_ble_eq_true rfl⟩) hI (fun H locs hI => ?_)
    refine lv_if_eq (tgt := 32) hx hb dX10_joint_25 (by decide) (fun c3 => ?_) (fun c3 => ?_)
    · rw [if_pos c3] at hR
      refine lv_iconst (v := 0) hx hb dX10_joint_32 (by decide) ?_
      refine lv_istore_n (lv' := [(3, .int 0), (0, .ref a), (1, .int p1), (2, .int p2)]) hx hb dX10_joint_33 rfl hl (by decide) rfl (fun ls hl => ?_)
      refine lv_iload_n hx hb dX10_joint_34 rfl (lv_at hl 0 rfl) ?_
      refine lv_if_eq (tgt := 50) hx hb dX10_joint_35 (by decide) (fun c4 => ?_) (fun c4 => absurd c4 (by decide))
      refine lv_iconst (v := (-1)) hx hb dX10_joint_50 (by decide) ?_
      exact q_iret hx hb hret hlk hN hI (by subst hR; exact ⟨rfl, rfl, rfl⟩) dX10_joint_51
    · rw [if_neg c3] at hR
      refine lv_iconst (v := 1) hx hb dX10_joint_28 (by decide) ?_
      refine lv_goto (tgt := 33) hx hb dX10_joint_29 (by decide) ?_
      refine lv_istore_n (lv' := [(3, .int 1), (0, .ref a), (1, .int p1), (2, .int p2)]) hx hb dX10_joint_33 rfl hl (by decide) rfl (fun ls hl => ?_)
      refine lv_iload_n hx hb dX10_joint_34 rfl (lv_at hl 0 rfl) ?_
      refine lv_if_eq (tgt := 50) hx hb dX10_joint_35 (by decide) (fun c5 => absurd c5 (by decide)) (fun c5 => ?_)
      refine lv_aload_n hx hb dX10_joint_38 rfl (lv_at hl 1 rfl) ?_
      refine q_get hx hb hg in_X10 hown hK hI hL0 rfl 0 (by decide) (hg _ wf_X10_10) (fun _ h9 => h9) rfl dX10_joint_39 ?_
      refine lv_iload_n hx hb dX10_joint_42 rfl (lv_at hl 2 rfl) ?_
      refine lv_iload_n hx hb dX10_joint_43 rfl (lv_at hl 3 rfl) ?_
      refine q_goR (q_runV (As := [.int p1, .int p2]) (rest := []) hx hb hml hown hg (c_X5_jointByRopes l D cs hL1 p1 p2) v_X5_jointByRopes wl_X10_239 rfl rfl ⟨Nat.le_of_ble_eq_true rfl, Nat.le_of_ble_eq_true rfl⟩ hI hK 6 hL1.1 rfl hl.1 rfl rfl (Nat.le_of_ble_eq_true rfl) dX10_joint_44 ⟨Nat.le_of_ble_eq_true rfl, Nat.le_of_ble_eq_true rfl⟩) hI (fun H locs hI => ?_)
      refine lv_goto (tgt := 51) hx hb dX10_joint_47 (by decide) ?_
      exact q_iret hx hb hret hlk hN hI (by subst hR; exact ⟨rfl, rfl, rfl⟩) dX10_joint_51
def s_X10_jointAgain (f : (Int32 × Int32)) (q : qQV) (p1 : Int32) (p2 : Int32) : Int32 := (if (qbi (s_X1_isThere q.1 p1)) = 0 then (-1) else (if (qbi (s_X1_isThere q.1 p2)) = 0 then (-1) else s_X1_jointByHolders q.1 p1 p2))
set_option maxHeartbeats 4000000 in
set_option maxRecDepth 20000 in
theorem c_X10_jointAgain (l : Launch) (D : va_G) (cs : qC) {M0 : qM} {N a : Nat} {f : (Int32 × Int32)} {q : qQV} (hL0 : qLX cs M0 a f) (hL1 : qLQ cs M0 (a + 1) q) (p1 : Int32) (p2 : Int32) :
    qMet l D cs yX10_jointAgain (qws yX10_jointAgain cX10_jointAgain 4 (some .int)) ({ frames := 3, cells := 0, slots := 0, locals := 69 } : Room) M0 N [.ref a, .int p1, .int p2] (qRet M0 N (.int (s_X10_jointAgain f q p1 p2))) 0 0 := by
  obtain ⟨R, hR⟩ : ∃ R, s_X10_jointAgain f q p1 p2 = R := ⟨_, rfl⟩
  rw [hR]
  rw [s_X10_jointAgain] at hR
  refine q_head (by decide +kernel) ?_ (Nat.le_of_ble_eq_true rfl)
  intro p e s m below meth c ls hx hb hret hlk hml hown hnm hg hK hN hI hl
  have hl : lv_has ls 4 [(0, .ref a), (1, .int p1), (2, .int p2)] := hl
  refine lv_aload_n hx hb dX10_jointAgain_0 rfl (lv_at hl 0 rfl) ?_
  refine q_get hx hb hg in_X10 hown hK hI hL0 rfl 0 (by decide) (hg _ wf_X10_10) (fun _ h9 => h9) rfl dX10_jointAgain_1 ?_
  refine q_getN hx hb hg in_X5 hown hK hI hL1.1 rfl 0 (by decide) (hK.2 _ (List.mem_of_getElem? (i := 12) rfl)) (fun _ h9 => h9) rfl dX10_jointAgain_4 ?_
  refine lv_iload_n hx hb dX10_jointAgain_7 rfl (lv_at hl 1 rfl) ?_
  refine q_goR (q_runV (As := [.int p1]) (rest := []) hx hb hml hown hg (c_X1_isThere l D cs hL1.2.1 p1) v_X1_isThere wl_X10_143 rfl rfl ⟨Nat.le_of_ble_eq_true rfl, Nat.le_of_ble_eq_true rfl⟩ hI hK 2 hL1.2.1.1 rfl hl.1 rfl rfl (Nat.le_of_ble_eq_true rfl) dX10_jointAgain_8 ⟨Nat.le_of_ble_eq_true rfl, Nat.le_of_ble_eq_true rfl⟩) hI (fun H locs hI => ?_)
  refine lv_if_eq (tgt := 32) hx hb dX10_jointAgain_11 (by decide) (fun c1 => ?_) (fun c1 => ?_)
  · rw [if_pos c1] at hR
    refine lv_iconst (v := 0) hx hb dX10_jointAgain_32 (by decide) ?_
    refine lv_istore_n (lv' := [(3, .int 0), (0, .ref a), (1, .int p1), (2, .int p2)]) hx hb dX10_jointAgain_33 rfl hl (by decide) rfl (fun ls hl => ?_)
    refine lv_iload_n hx hb dX10_jointAgain_34 rfl (lv_at hl 0 rfl) ?_
    refine lv_if_eq (tgt := 53) hx hb dX10_jointAgain_35 (by decide) (fun c2 => ?_) (fun c2 => absurd c2 (by decide))
    refine lv_iconst (v := (-1)) hx hb dX10_jointAgain_53 (by decide) ?_
    exact q_iret hx hb hret hlk hN hI (by subst hR; exact ⟨rfl, rfl, rfl⟩) dX10_jointAgain_54
  · rw [if_neg c1] at hR
    refine lv_aload_n hx hb dX10_jointAgain_14 rfl (lv_at hl 0 rfl) ?_
    refine q_get hx hb hg in_X10 hown hK hI hL0 rfl 0 (by decide) (hg _ wf_X10_10) (fun _ h9 => h9) rfl dX10_jointAgain_15 ?_
    refine q_getN hx hb hg in_X5 hown hK hI hL1.1 rfl 0 (by decide) (hK.2 _ (List.mem_of_getElem? (i := 12) rfl)) (fun _ h9 => h9) rfl dX10_jointAgain_18 ?_
    refine lv_iload_n hx hb dX10_jointAgain_21 rfl (lv_at hl 2 rfl) ?_
    refine q_goR (q_runV (As := [.int p2]) (rest := []) hx hb hml hown hg (c_X1_isThere l D cs hL1.2.1 p2) v_X1_isThere wl_X10_143 rfl rfl ⟨Nat.le_of_ble_eq_true rfl, Nat.le_of_ble_eq_true rfl⟩ hI hK 2 hL1.2.1.1 rfl hl.1 rfl rfl (Nat.le_of_ble_eq_true rfl) dX10_jointAgain_22 ⟨Nat.le_of_ble_eq_true rfl, Nat.le_of_ble_eq_true rfl⟩) hI (fun H locs hI => ?_)
    refine lv_if_eq (tgt := 32) hx hb dX10_jointAgain_25 (by decide) (fun c3 => ?_) (fun c3 => ?_)
    · rw [if_pos c3] at hR
      refine lv_iconst (v := 0) hx hb dX10_jointAgain_32 (by decide) ?_
      refine lv_istore_n (lv' := [(3, .int 0), (0, .ref a), (1, .int p1), (2, .int p2)]) hx hb dX10_jointAgain_33 rfl hl (by decide) rfl (fun ls hl => ?_)
      refine lv_iload_n hx hb dX10_jointAgain_34 rfl (lv_at hl 0 rfl) ?_
      refine lv_if_eq (tgt := 53) hx hb dX10_jointAgain_35 (by decide) (fun c4 => ?_) (fun c4 => absurd c4 (by decide))
      refine lv_iconst (v := (-1)) hx hb dX10_jointAgain_53 (by decide) ?_
      exact q_iret hx hb hret hlk hN hI (by subst hR; exact ⟨rfl, rfl, rfl⟩) dX10_jointAgain_54
    · rw [if_neg c3] at hR
      refine lv_iconst (v := 1) hx hb dX10_jointAgain_28 (by decide) ?_
      refine lv_goto (tgt := 33) hx hb dX10_jointAgain_29 (by decide) ?_
      refine lv_istore_n (lv' := [(3, .int 1), (0, .ref a), (1, .int p1), (2, .int p2)]) hx hb dX10_jointAgain_33 rfl hl (by decide) rfl (fun ls hl => ?_)
      refine lv_iload_n hx hb dX10_jointAgain_34 rfl (lv_at hl 0 rfl) ?_
      refine lv_if_eq (tgt := 53) hx hb dX10_jointAgain_35 (by decide) (fun c5 => absurd c5 (by decide)) (fun c5 => ?_)
      refine lv_aload_n hx hb dX10_jointAgain_38 rfl (lv_at hl 1 rfl) ?_
      refine q_get hx hb hg in_X10 hown hK hI hL0 rfl 0 (by decide) (hg _ wf_X10_10) (fun _ h9 => h9) rfl dX10_jointAgain_39 ?_
      refine q_getN hx hb hg in_X5 hown hK hI hL1.1 rfl 0 (by decide) (hK.2 _ (List.mem_of_getElem? (i := 12) rfl)) (fun _ h9 => h9) rfl dX10_jointAgain_42 ?_
      refine lv_iload_n hx hb dX10_jointAgain_45 rfl (lv_at hl 2 rfl) ?_
      refine lv_iload_n hx hb dX10_jointAgain_46 rfl (lv_at hl 3 rfl) ?_
      refine q_goR (q_runV (As := [.int p1, .int p2]) (rest := []) hx hb hml hown hg (c_X1_jointByHolders l D cs hL1.2.1 p1 p2) v_X1_jointByHolders wl_X10_242 rfl rfl ⟨Nat.le_of_ble_eq_true rfl, Nat.le_of_ble_eq_true rfl⟩ hI hK 2 hL1.2.1.1 rfl hl.1 rfl rfl (Nat.le_of_ble_eq_true rfl) dX10_jointAgain_47 ⟨Nat.le_of_ble_eq_true rfl, Nat.le_of_ble_eq_true rfl⟩) hI (fun H locs hI => ?_)
      refine lv_goto (tgt := 54) hx hb dX10_jointAgain_50 (by decide) ?_
      exact q_iret hx hb hret hlk hN hI (by subst hR; exact ⟨rfl, rfl, rfl⟩) dX10_jointAgain_54
def s_X10_sledgeOf (f : (Int32 × Int32)) (q : qQV) (p1 : Int32) (p2 : Int32) : Int32 := s_X7_tell q.2.2.1 p1 p2
set_option maxHeartbeats 4000000 in
set_option maxRecDepth 20000 in
theorem c_X10_sledgeOf (l : Launch) (D : va_G) (cs : qC) {M0 : qM} {N a : Nat} {f : (Int32 × Int32)} {q : qQV} (hL0 : qLX cs M0 a f) (hL1 : qLQ cs M0 (a + 1) q) (p1 : Int32) (p2 : Int32) :
    qMet l D cs yX10_sledgeOf (qws yX10_sledgeOf cX10_sledgeOf 3 (some .int)) ({ frames := 2, cells := 0, slots := 0, locals := 43 } : Room) M0 N [.ref a, .int p1, .int p2] (qRet M0 N (.int (s_X10_sledgeOf f q p1 p2))) 0 0 := by
  obtain ⟨R, hR⟩ : ∃ R, s_X10_sledgeOf f q p1 p2 = R := ⟨_, rfl⟩
  rw [hR]
  rw [s_X10_sledgeOf] at hR
  refine q_head (by decide +kernel) ?_ (Nat.le_of_ble_eq_true rfl)
  intro p e s m below meth c ls hx hb hret hlk hml hown hnm hg hK hN hI hl
  have hl : lv_has ls 3 [(0, .ref a), (1, .int p1), (2, .int p2)] := hl
  refine lv_aload_n hx hb dX10_sledgeOf_0 rfl (lv_at hl 0 rfl) ?_
  refine q_get hx hb hg in_X10 hown hK hI hL0 rfl 0 (by decide) (hg _ wf_X10_10) (fun _ h9 => h9) rfl dX10_sledgeOf_1 ?_
  refine q_getN hx hb hg in_X5 hown hK hI hL1.1 rfl 2 (by decide) (hK.2 _ (List.mem_of_getElem? (i := 14) rfl)) (fun _ h9 => h9) rfl dX10_sledgeOf_4 ?_
  refine lv_iload_n hx hb dX10_sledgeOf_7 rfl (lv_at hl 1 rfl) ?_
  refine lv_iload_n hx hb dX10_sledgeOf_8 rfl (lv_at hl 2 rfl) ?_
  refine q_goR (q_runV (As := [.int p1, .int p2]) (rest := []) hx hb hml hown hg (c_X7_tell l D cs hL1.2.2.2 p1 p2) v_X7_tell wl_X10_245 rfl rfl ⟨Nat.le_of_ble_eq_true rfl, Nat.le_of_ble_eq_true rfl⟩ hI hK 8 hL1.2.2.2.1 rfl hl.1 rfl rfl (Nat.le_of_ble_eq_true rfl) dX10_sledgeOf_9 ⟨Nat.le_of_ble_eq_true rfl, Nat.le_of_ble_eq_true rfl⟩) hI (fun H locs hI => ?_)
  exact q_iret hx hb hret hlk hN hI (by subst hR; exact ⟨rfl, rfl, rfl⟩) dX10_sledgeOf_12
def s_X10_ranked (f : (Int32 × Int32)) (q : qQV) (p1 : Int32) : Int32 := s_X1_blockOfRank q.1 p1
set_option maxHeartbeats 4000000 in
set_option maxRecDepth 20000 in
theorem c_X10_ranked (l : Launch) (D : va_G) (cs : qC) {M0 : qM} {N a : Nat} {f : (Int32 × Int32)} {q : qQV} (hL0 : qLX cs M0 a f) (hL1 : qLQ cs M0 (a + 1) q) (p1 : Int32) :
    qMet l D cs yX10_ranked (qws yX10_ranked cX10_ranked 2 (some .int)) ({ frames := 6, cells := 0, slots := 0, locals := 134 } : Room) M0 N [.ref a, .int p1] (qRet M0 N (.int (s_X10_ranked f q p1))) 0 0 := by
  obtain ⟨R, hR⟩ : ∃ R, s_X10_ranked f q p1 = R := ⟨_, rfl⟩
  rw [hR]
  rw [s_X10_ranked] at hR
  refine q_head (by decide +kernel) ?_ (Nat.le_of_ble_eq_true rfl)
  intro p e s m below meth c ls hx hb hret hlk hml hown hnm hg hK hN hI hl
  have hl : lv_has ls 2 [(0, .ref a), (1, .int p1)] := hl
  refine lv_aload_n hx hb dX10_ranked_0 rfl (lv_at hl 0 rfl) ?_
  refine q_get hx hb hg in_X10 hown hK hI hL0 rfl 0 (by decide) (hg _ wf_X10_10) (fun _ h9 => h9) rfl dX10_ranked_1 ?_
  refine q_getN hx hb hg in_X5 hown hK hI hL1.1 rfl 0 (by decide) (hK.2 _ (List.mem_of_getElem? (i := 12) rfl)) (fun _ h9 => h9) rfl dX10_ranked_4 ?_
  refine lv_iload_n hx hb dX10_ranked_7 rfl (lv_at hl 1 rfl) ?_
  refine q_goR (q_runV (As := [.int p1]) (rest := []) hx hb hml hown hg (c_X1_blockOfRank l D cs hL1.2.1 p1) v_X1_blockOfRank wl_X10_247 rfl rfl ⟨Nat.le_of_ble_eq_true rfl, Nat.le_of_ble_eq_true rfl⟩ hI hK 2 hL1.2.1.1 rfl hl.1 rfl rfl (Nat.le_of_ble_eq_true rfl) dX10_ranked_8 ⟨Nat.le_of_ble_eq_true rfl, Nat.le_of_ble_eq_true rfl⟩) hI (fun H locs hI => ?_)
  exact q_iret hx hb hret hlk hN hI (by subst hR; exact ⟨rfl, rfl, rfl⟩) dX10_ranked_11
def s_X10_isWell (f : (Int32 × Int32)) (q : qQV)  : Int32 := (if (qbi (s_X5_doWaysAgree q)) = 0 then 0 else (if (qbi (s_X5_areRopesWell q)) = 0 then 0 else 1))
set_option maxHeartbeats 4000000 in
set_option maxRecDepth 20000 in
theorem c_X10_isWell (l : Launch) (D : va_G) (cs : qC) {M0 : qM} {N a : Nat} {f : (Int32 × Int32)} {q : qQV} (hL0 : qLX cs M0 a f) (hL1 : qLQ cs M0 (a + 1) q) :
    qMet l D cs yX10_isWell (qws yX10_isWell cX10_isWell 1 (some .int)) ({ frames := 7, cells := 0, slots := 0, locals := 164 } : Room) M0 N [.ref a] (qRet M0 N (.int (s_X10_isWell f q))) 0 0 := by
  obtain ⟨R, hR⟩ : ∃ R, s_X10_isWell f q = R := ⟨_, rfl⟩
  rw [hR]
  rw [s_X10_isWell] at hR
  refine q_head (by decide +kernel) ?_ (Nat.le_of_ble_eq_true rfl)
  intro p e s m below meth c ls hx hb hret hlk hml hown hnm hg hK hN hI hl
  have hl : lv_has ls 1 [(0, .ref a)] := hl
  refine lv_aload_n hx hb dX10_isWell_0 rfl (lv_at hl 0 rfl) ?_
  refine q_get hx hb hg in_X10 hown hK hI hL0 rfl 0 (by decide) (hg _ wf_X10_10) (fun _ h9 => h9) rfl dX10_isWell_1 ?_
  refine q_goR (q_runV (As := []) (rest := []) hx hb hml hown hg (c_X5_doWaysAgree l D cs hL1) v_X5_doWaysAgree wl_X10_271 rfl rfl ⟨Nat.le_of_ble_eq_true rfl, Nat.le_of_ble_eq_true rfl⟩ hI hK 6 hL1.1 rfl hl.1 rfl rfl (Nat.le_of_ble_eq_true rfl) dX10_isWell_4 ⟨Nat.le_of_ble_eq_true rfl, Nat.le_of_ble_eq_true rfl⟩) hI (fun H locs hI => ?_)
  refine lv_if_eq (tgt := 24) hx hb dX10_isWell_7 (by decide) (fun c1 => ?_) (fun c1 => ?_)
  · rw [if_pos c1] at hR
    refine lv_iconst (v := 0) hx hb dX10_isWell_24 (by decide) ?_
    exact q_iret hx hb hret hlk hN hI (by subst hR; exact ⟨rfl, rfl, rfl⟩) dX10_isWell_25
  · rw [if_neg c1] at hR
    refine lv_aload_n hx hb dX10_isWell_10 rfl (lv_at hl 0 rfl) ?_
    refine q_get hx hb hg in_X10 hown hK hI hL0 rfl 0 (by decide) (hg _ wf_X10_10) (fun _ h9 => h9) rfl dX10_isWell_11 ?_
    refine q_goR (q_runV (As := []) (rest := []) hx hb hml hown hg (c_X5_areRopesWell l D cs hL1) v_X5_areRopesWell wl_X10_274 rfl rfl ⟨Nat.le_of_ble_eq_true rfl, Nat.le_of_ble_eq_true rfl⟩ hI hK 6 hL1.1 rfl hl.1 rfl rfl (Nat.le_of_ble_eq_true rfl) dX10_isWell_14 ⟨Nat.le_of_ble_eq_true rfl, Nat.le_of_ble_eq_true rfl⟩) hI (fun H locs hI => ?_)
    refine lv_if_eq (tgt := 24) hx hb dX10_isWell_17 (by decide) (fun c2 => ?_) (fun c2 => ?_)
    · rw [if_pos c2] at hR
      refine lv_iconst (v := 0) hx hb dX10_isWell_24 (by decide) ?_
      exact q_iret hx hb hret hlk hN hI (by subst hR; exact ⟨rfl, rfl, rfl⟩) dX10_isWell_25
    · rw [if_neg c2] at hR
      refine lv_iconst (v := 1) hx hb dX10_isWell_20 (by decide) ?_
      refine lv_goto (tgt := 25) hx hb dX10_isWell_21 (by decide) ?_
      exact q_iret hx hb hret hlk hN hI (by subst hR; exact ⟨rfl, rfl, rfl⟩) dX10_isWell_25
def s_X10_turnsFor (f : (Int32 × Int32)) (q : qQV) (qt : qQV) (p1 : Int32) : Int32 × qQV := (if (qbi (s_X1_isThere q.1 p1)) = 0 then ((-1), qt) else ((s_X5_expose (s_X5_takeOver qt q) p1).2.1.2.2.2 - q.2.1.2.2.2, (s_X5_expose (s_X5_takeOver qt q) p1)))
set_option maxHeartbeats 4000000 in
set_option maxRecDepth 20000 in
theorem c_X10_turnsFor (l : Launch) (D : va_G) (cs : qC) {M0 : qM} {N a : Nat} {f : (Int32 × Int32)} {q : qQV} {qt : qQV} (hL0 : qLX cs M0 a f) (hL1 : qLQ cs M0 (a + 1) q) (hL2 : qLQ cs M0 (a + 27) qt) (p1 : Int32) :
    qMet l D cs yX10_turnsFor (qws yX10_turnsFor cX10_turnsFor 2 (some .int)) ({ frames := 5, cells := 0, slots := 0, locals := 120 } : Room) M0 N [.ref a, .int p1] (qMod N (some (.int ((s_X10_turnsFor f q qt p1).1))) (fun M' => qLQ cs M' (a + 27) ((s_X10_turnsFor f q qt p1).2) ∧ qFr (qIn (a + 27) 13) M0 M')) 0 0 := by
  obtain ⟨R, hR⟩ : ∃ R, s_X10_turnsFor f q qt p1 = R := ⟨_, rfl⟩
  rw [hR]
  rw [s_X10_turnsFor] at hR
  refine q_head (by decide +kernel) ?_ (Nat.le_of_ble_eq_true rfl)
  intro p e s m below meth c ls hx hb hret hlk hml hown hnm hg hK hN hI hl
  have hl : lv_has ls 2 [(0, .ref a), (1, .int p1)] := hl
  have hS : qFr (qIn (a + 27) 13) M0 M0 := qFr.rf
  refine lv_aload_n hx hb dX10_turnsFor_0 rfl (lv_at hl 0 rfl) ?_
  refine q_get hx hb hg in_X10 hown hK hI hL0 rfl 0 (by decide) (hg _ wf_X10_10) (fun _ h9 => h9) rfl dX10_turnsFor_1 ?_
  refine q_getN hx hb hg in_X5 hown hK hI hL1.1 rfl 0 (by decide) (hK.2 _ (List.mem_of_getElem? (i := 12) rfl)) (fun _ h9 => h9) rfl dX10_turnsFor_4 ?_
  refine lv_iload_n hx hb dX10_turnsFor_7 rfl (lv_at hl 1 rfl) ?_
  refine q_goR (q_runV (As := [.int p1]) (rest := []) hx hb hml hown hg (c_X1_isThere l D cs hL1.2.1 p1) v_X1_isThere wl_X10_143 rfl rfl ⟨Nat.le_of_ble_eq_true rfl, Nat.le_of_ble_eq_true rfl⟩ hI hK 2 hL1.2.1.1 rfl hl.1 rfl rfl (Nat.le_of_ble_eq_true rfl) dX10_turnsFor_8 ⟨Nat.le_of_ble_eq_true rfl, Nat.le_of_ble_eq_true rfl⟩) hI (fun H locs hI => ?_)
  refine lv_if_ne (tgt := 16) hx hb dX10_turnsFor_11 (by decide) (fun c1 => ?_) (fun c1 => ?_)
  · rw [if_neg c1] at hR
    refine lv_aload_n hx hb dX10_turnsFor_16 rfl (lv_at hl 0 rfl) ?_
    refine q_get hx hb hg in_X10 hown hK hI hL0 rfl 2 (by decide) (hg _ wf_X10_19) (fun _ h9 => h9) rfl dX10_turnsFor_17 ?_
    refine lv_aload_n hx hb dX10_turnsFor_20 rfl (lv_at hl 0 rfl) ?_
    refine q_get hx hb hg in_X10 hown hK hI hL0 rfl 0 (by decide) (hg _ wf_X10_10) (fun _ h9 => h9) rfl dX10_turnsFor_21 ?_
    refine q_goN (q_runV (As := [.ref (a + 1)]) (rest := []) hx hb hml hown hg (c_X5_takeOver l D cs hL2 hL1 (by omega)) v_X5_takeOver wl_X10_217 rfl rfl ⟨Nat.le_of_ble_eq_true rfl, Nat.le_of_ble_eq_true rfl⟩ hI hK 6 hL2.1 rfl hl.1 rfl rfl (Nat.le_of_ble_eq_true rfl) dX10_turnsFor_24 ⟨Nat.le_of_ble_eq_true rfl, Nat.le_of_ble_eq_true rfl⟩) hI (fun M H locs hp hI => ?_)
    obtain ⟨hn0, hF⟩ := hp
    generalize heg2 : s_X5_takeOver qt q = g2 at hn0 hR
    have hn := hn0
    have hL2 := hn
    have hL0 := hL0.fr hF (fun q h1 h2 hq => by omega)
    have hL1 := hL1.fr hF (fun q h1 h2 hq => by omega)
    have hS := hS.tr hF (fun q hq => by omega)
    refine lv_aload_n hx hb dX10_turnsFor_27 rfl (lv_at hl 0 rfl) ?_
    refine q_get hx hb hg in_X10 hown hK hI hL0 rfl 2 (by decide) (hg _ wf_X10_19) (fun _ h9 => h9) rfl dX10_turnsFor_28 ?_
    refine lv_iload_n hx hb dX10_turnsFor_31 rfl (lv_at hl 1 rfl) ?_
    refine q_goN (q_runV (As := [.int p1]) (rest := []) hx hb hml hown hg (c_X5_expose l D cs hL2 p1) v_X5_expose wl_X10_220 rfl rfl ⟨Nat.le_of_ble_eq_true rfl, Nat.le_of_ble_eq_true rfl⟩ hI hK 6 hL2.1 rfl hl.1 rfl rfl (Nat.le_of_ble_eq_true rfl) dX10_turnsFor_32 ⟨Nat.le_of_ble_eq_true rfl, Nat.le_of_ble_eq_true rfl⟩) hI (fun M H locs hp hI => ?_)
    obtain ⟨hn0, hF⟩ := hp
    generalize heg3 : s_X5_expose g2 p1 = g3 at hn0 hR
    have hn := hn0
    have hL2 := hn
    have hL0 := hL0.fr hF (fun q h1 h2 hq => by omega)
    have hL1 := hL1.fr hF (fun q h1 h2 hq => by omega)
    have hS := hS.tr hF (fun q hq => by omega)
    refine lv_aload_n hx hb dX10_turnsFor_35 rfl (lv_at hl 0 rfl) ?_
    refine q_get hx hb hg in_X10 hown hK hI hL0 rfl 2 (by decide) (hg _ wf_X10_19) (fun _ h9 => h9) rfl dX10_turnsFor_36 ?_
    refine q_getN hx hb hg in_X5 hown hK hI hL2.1 rfl 1 (by decide) (hK.2 _ (List.mem_of_getElem? (i := 13) rfl)) (fun _ h9 => h9) rfl dX10_turnsFor_39 ?_
    refine q_getN hx hb hg in_X8 hown hK hI hL2.2.2.1.1 rfl 3 (by decide) (hK.2 _ (List.mem_of_getElem? (i := 6) rfl)) (fun _ h9 => h9) rfl dX10_turnsFor_42 ?_
    refine lv_aload_n hx hb dX10_turnsFor_45 rfl (lv_at hl 0 rfl) ?_
    refine q_get hx hb hg in_X10 hown hK hI hL0 rfl 0 (by decide) (hg _ wf_X10_10) (fun _ h9 => h9) rfl dX10_turnsFor_46 ?_
    refine q_getN hx hb hg in_X5 hown hK hI hL1.1 rfl 1 (by decide) (hK.2 _ (List.mem_of_getElem? (i := 13) rfl)) (fun _ h9 => h9) rfl dX10_turnsFor_49 ?_
    refine q_getN hx hb hg in_X8 hown hK hI hL1.2.2.1.1 rfl 3 (by decide) (hK.2 _ (List.mem_of_getElem? (i := 6) rfl)) (fun _ h9 => h9) rfl dX10_turnsFor_52 ?_
    refine lv_isub hx hb dX10_turnsFor_55 ?_
    exact q_iret hx hb hret hlk hN hI (by subst hR; exact ⟨rfl, ⟨hL2, hS⟩, rfl⟩) dX10_turnsFor_56
  · rw [if_pos c1] at hR
    refine lv_iconst (v := (-1)) hx hb dX10_turnsFor_14 (by decide) ?_
    exact q_iret hx hb hret hlk hN hI (by subst hR; exact ⟨rfl, ⟨hL2, hS⟩, rfl⟩) dX10_turnsFor_15
def s_X10_written (f : (Int32 × Int32)) (n : qNV) (p1 : Int32) : Int32 := s_X4_codeAt n p1
set_option maxHeartbeats 4000000 in
set_option maxRecDepth 20000 in
theorem c_X10_written (l : Launch) (D : va_G) (cs : qC) {M0 : qM} {N a : Nat} {f : (Int32 × Int32)} {n : qNV} (hL0 : qLX cs M0 a f) (hL1 : qLN cs M0 (a + 164) n) (p1 : Int32) :
    qMet l D cs yX10_written (qws yX10_written cX10_written 2 (some .int)) ({ frames := 2, cells := 0, slots := 0, locals := 42 } : Room) M0 N [.ref a, .int p1] (qRet M0 N (.int (s_X10_written f n p1))) 0 0 := by
  obtain ⟨R, hR⟩ : ∃ R, s_X10_written f n p1 = R := ⟨_, rfl⟩
  rw [hR]
  rw [s_X10_written] at hR
  refine q_head (by decide +kernel) ?_ (Nat.le_of_ble_eq_true rfl)
  intro p e s m below meth c ls hx hb hret hlk hml hown hnm hg hK hN hI hl
  have hl : lv_has ls 2 [(0, .ref a), (1, .int p1)] := hl
  refine lv_aload_n hx hb dX10_written_0 rfl (lv_at hl 0 rfl) ?_
  refine q_get hx hb hg in_X10 hown hK hI hL0 rfl 5 (by decide) (hg _ wf_X10_39) (fun _ h9 => h9) rfl dX10_written_1 ?_
  refine lv_iload_n hx hb dX10_written_4 rfl (lv_at hl 1 rfl) ?_
  refine q_goR (q_runV (As := [.int p1]) (rest := []) hx hb hml hown hg (c_X4_codeAt l D cs hL1 p1) v_X4_codeAt wl_X10_268 rfl rfl ⟨Nat.le_of_ble_eq_true rfl, Nat.le_of_ble_eq_true rfl⟩ hI hK 5 hL1.1 rfl hl.1 rfl rfl (Nat.le_of_ble_eq_true rfl) dX10_written_5 ⟨Nat.le_of_ble_eq_true rfl, Nat.le_of_ble_eq_true rfl⟩) hI (fun H locs hI => ?_)
  exact q_iret hx hb hret hlk hN hI (by subst hR; exact ⟨rfl, rfl, rfl⟩) dX10_written_8
def s_X10_account (f : (Int32 × Int32)) (q : qQV) (h : qHV) (i : qIV) (p1 : Int32) : Int32 := (if p1 = 0 then q.1.2.2 else (if p1 = 1 then s_X1_countRoots q.1 else (if p1 = 2 then s_X5_countRopes q else (if p1 = 3 then s_X1_sumOfWeights q.1 else (if p1 = 4 then q.2.2.2.1 else (if p1 = 5 then q.2.1.2.2.2 else (if p1 = 6 then q.2.2.2.2.1 else (if p1 = 7 then q.2.2.2.2.2 else (if p1 = 8 then s_X7_countUnderway q.2.2.1 else (if p1 = 9 then s_X7_countArrived q.2.2.1 else (if p1 = 10 then s_X7_arrivedLoads q.2.2.1 else (if p1 = 11 then i.2.2.2.2.1 else (if p1 = 12 then h.2.2 else (-2))))))))))))))
set_option maxHeartbeats 4000000 in
set_option maxRecDepth 20000 in
theorem c_X10_account (l : Launch) (D : va_G) (cs : qC) {M0 : qM} {N a : Nat} {f : (Int32 × Int32)} {q : qQV} {h : qHV} {i : qIV} (hL0 : qLX cs M0 a f) (hL1 : qLQ cs M0 (a + 1) q) (hL2 : qLH cs M0 (a + 40) h) (hL3 : qLI cs M0 (a + 159) i) (p1 : Int32) :
    qMet l D cs yX10_account (qws yX10_account cX10_account 2 (some .int)) ({ frames := 4, cells := 0, slots := 0, locals := 85 } : Room) M0 N [.ref a, .int p1] (qRet M0 N (.int (s_X10_account f q h i p1))) 0 0 := by
  obtain ⟨R, hR⟩ : ∃ R, s_X10_account f q h i p1 = R := ⟨_, rfl⟩
  rw [hR]
  rw [s_X10_account] at hR
  refine q_head (by decide +kernel) ?_ (Nat.le_of_ble_eq_true rfl)
  intro p e s m below meth c ls hx hb hret hlk hml hown hnm hg hK hN hI hl
  have hl : lv_has ls 2 [(0, .ref a), (1, .int p1)] := hl
  refine lv_iload_n hx hb dX10_account_0 rfl (lv_at hl 1 rfl) ?_
  by_cases h1 : p1 = 0
  · rw [if_pos h1] at hR
    refine lv_tableIn (off := 67) (tgt := 68) hx hb dX10_account_1 (by rw [h1]; decide) (by rw [h1]; decide) (by rw [h1]; decide) (by decide) ?_
    refine lv_aload_n hx hb dX10_account_68 rfl (lv_at hl 0 rfl) ?_
    refine q_get hx hb hg in_X10 hown hK hI hL0 rfl 0 (by decide) (hg _ wf_X10_10) (fun _ h9 => h9) rfl dX10_account_69 ?_
    refine q_getN hx hb hg in_X5 hown hK hI hL1.1 rfl 0 (by decide) (hK.2 _ (List.mem_of_getElem? (i := 12) rfl)) (fun _ h9 => h9) rfl dX10_account_72 ?_
    refine q_getN hx hb hg in_X1 hown hK hI hL1.2.1.1 rfl 2 (by decide) (hK.2 _ (List.mem_of_getElem? (i := 4) rfl)) (fun _ h9 => h9) rfl dX10_account_75 ?_
    refine lv_goto (tgt := 221) hx hb dX10_account_78 (by decide) ?_
    exact q_iret hx hb hret hlk hN hI (by subst hR; exact ⟨rfl, rfl, rfl⟩) dX10_account_221
  rw [if_neg h1] at hR
  by_cases h2 : p1 = 1
  · rw [if_pos h2] at hR
    refine lv_tableIn (off := 80) (tgt := 81) hx hb dX10_account_1 (by rw [h2]; decide) (by rw [h2]; decide) (by rw [h2]; decide) (by decide) ?_
    refine lv_aload_n hx hb dX10_account_81 rfl (lv_at hl 0 rfl) ?_
    refine q_get hx hb hg in_X10 hown hK hI hL0 rfl 0 (by decide) (hg _ wf_X10_10) (fun _ h9 => h9) rfl dX10_account_82 ?_
    refine q_getN hx hb hg in_X5 hown hK hI hL1.1 rfl 0 (by decide) (hK.2 _ (List.mem_of_getElem? (i := 12) rfl)) (fun _ h9 => h9) rfl dX10_account_85 ?_
    refine q_goR (q_runV (As := []) (rest := []) hx hb hml hown hg (c_X1_countRoots l D cs hL1.2.1) v_X1_countRoots wl_X10_280 rfl rfl ⟨Nat.le_of_ble_eq_true rfl, Nat.le_of_ble_eq_true rfl⟩ hI hK 2 hL1.2.1.1 rfl hl.1 rfl rfl (Nat.le_of_ble_eq_true rfl) dX10_account_88 ⟨Nat.le_of_ble_eq_true rfl, Nat.le_of_ble_eq_true rfl⟩) hI (fun H locs hI => ?_)
    refine lv_goto (tgt := 221) hx hb dX10_account_91 (by decide) ?_
    exact q_iret hx hb hret hlk hN hI (by subst hR; exact ⟨rfl, rfl, rfl⟩) dX10_account_221
  rw [if_neg h2] at hR
  by_cases h3 : p1 = 2
  · rw [if_pos h3] at hR
    refine lv_tableIn (off := 93) (tgt := 94) hx hb dX10_account_1 (by rw [h3]; decide) (by rw [h3]; decide) (by rw [h3]; decide) (by decide) ?_
    refine lv_aload_n hx hb dX10_account_94 rfl (lv_at hl 0 rfl) ?_
    refine q_get hx hb hg in_X10 hown hK hI hL0 rfl 0 (by decide) (hg _ wf_X10_10) (fun _ h9 => h9) rfl dX10_account_95 ?_
    refine q_goR (q_runV (As := []) (rest := []) hx hb hml hown hg (c_X5_countRopes l D cs hL1) v_X5_countRopes wl_X10_210 rfl rfl ⟨Nat.le_of_ble_eq_true rfl, Nat.le_of_ble_eq_true rfl⟩ hI hK 6 hL1.1 rfl hl.1 rfl rfl (Nat.le_of_ble_eq_true rfl) dX10_account_98 ⟨Nat.le_of_ble_eq_true rfl, Nat.le_of_ble_eq_true rfl⟩) hI (fun H locs hI => ?_)
    refine lv_goto (tgt := 221) hx hb dX10_account_101 (by decide) ?_
    exact q_iret hx hb hret hlk hN hI (by subst hR; exact ⟨rfl, rfl, rfl⟩) dX10_account_221
  rw [if_neg h3] at hR
  by_cases h4 : p1 = 3
  · rw [if_pos h4] at hR
    refine lv_tableIn (off := 103) (tgt := 104) hx hb dX10_account_1 (by rw [h4]; decide) (by rw [h4]; decide) (by rw [h4]; decide) (by decide) ?_
    refine lv_aload_n hx hb dX10_account_104 rfl (lv_at hl 0 rfl) ?_
    refine q_get hx hb hg in_X10 hown hK hI hL0 rfl 0 (by decide) (hg _ wf_X10_10) (fun _ h9 => h9) rfl dX10_account_105 ?_
    refine q_getN hx hb hg in_X5 hown hK hI hL1.1 rfl 0 (by decide) (hK.2 _ (List.mem_of_getElem? (i := 12) rfl)) (fun _ h9 => h9) rfl dX10_account_108 ?_
    refine q_goR (q_runV (As := []) (rest := []) hx hb hml hown hg (c_X1_sumOfWeights l D cs hL1.2.1) v_X1_sumOfWeights wl_X10_283 rfl rfl ⟨Nat.le_of_ble_eq_true rfl, Nat.le_of_ble_eq_true rfl⟩ hI hK 2 hL1.2.1.1 rfl hl.1 rfl rfl (Nat.le_of_ble_eq_true rfl) dX10_account_111 ⟨Nat.le_of_ble_eq_true rfl, Nat.le_of_ble_eq_true rfl⟩) hI (fun H locs hI => ?_)
    refine lv_goto (tgt := 221) hx hb dX10_account_114 (by decide) ?_
    exact q_iret hx hb hret hlk hN hI (by subst hR; exact ⟨rfl, rfl, rfl⟩) dX10_account_221
  rw [if_neg h4] at hR
  by_cases h5 : p1 = 4
  · rw [if_pos h5] at hR
    refine lv_tableIn (off := 116) (tgt := 117) hx hb dX10_account_1 (by rw [h5]; decide) (by rw [h5]; decide) (by rw [h5]; decide) (by decide) ?_
    refine lv_aload_n hx hb dX10_account_117 rfl (lv_at hl 0 rfl) ?_
    refine q_get hx hb hg in_X10 hown hK hI hL0 rfl 0 (by decide) (hg _ wf_X10_10) (fun _ h9 => h9) rfl dX10_account_118 ?_
    refine q_getN hx hb hg in_X5 hown hK hI hL1.1 rfl 3 (by decide) (hK.2 _ (List.mem_of_getElem? (i := 15) rfl)) (fun _ h9 => h9) rfl dX10_account_121 ?_
    refine lv_goto (tgt := 221) hx hb dX10_account_124 (by decide) ?_
    exact q_iret hx hb hret hlk hN hI (by subst hR; exact ⟨rfl, rfl, rfl⟩) dX10_account_221
  rw [if_neg h5] at hR
  by_cases h6 : p1 = 5
  · rw [if_pos h6] at hR
    refine lv_tableIn (off := 126) (tgt := 127) hx hb dX10_account_1 (by rw [h6]; decide) (by rw [h6]; decide) (by rw [h6]; decide) (by decide) ?_
    refine lv_aload_n hx hb dX10_account_127 rfl (lv_at hl 0 rfl) ?_
    refine q_get hx hb hg in_X10 hown hK hI hL0 rfl 0 (by decide) (hg _ wf_X10_10) (fun _ h9 => h9) rfl dX10_account_128 ?_
    refine q_getN hx hb hg in_X5 hown hK hI hL1.1 rfl 1 (by decide) (hK.2 _ (List.mem_of_getElem? (i := 13) rfl)) (fun _ h9 => h9) rfl dX10_account_131 ?_
    refine q_getN hx hb hg in_X8 hown hK hI hL1.2.2.1.1 rfl 3 (by decide) (hK.2 _ (List.mem_of_getElem? (i := 6) rfl)) (fun _ h9 => h9) rfl dX10_account_134 ?_
    refine lv_goto (tgt := 221) hx hb dX10_account_137 (by decide) ?_
    exact q_iret hx hb hret hlk hN hI (by subst hR; exact ⟨rfl, rfl, rfl⟩) dX10_account_221
  rw [if_neg h6] at hR
  by_cases h7 : p1 = 6
  · rw [if_pos h7] at hR
    refine lv_tableIn (off := 139) (tgt := 140) hx hb dX10_account_1 (by rw [h7]; decide) (by rw [h7]; decide) (by rw [h7]; decide) (by decide) ?_
    refine lv_aload_n hx hb dX10_account_140 rfl (lv_at hl 0 rfl) ?_
    refine q_get hx hb hg in_X10 hown hK hI hL0 rfl 0 (by decide) (hg _ wf_X10_10) (fun _ h9 => h9) rfl dX10_account_141 ?_
    refine q_getN hx hb hg in_X5 hown hK hI hL1.1 rfl 4 (by decide) (hK.2 _ (List.mem_of_getElem? (i := 16) rfl)) (fun _ h9 => h9) rfl dX10_account_144 ?_
    refine lv_goto (tgt := 221) hx hb dX10_account_147 (by decide) ?_
    exact q_iret hx hb hret hlk hN hI (by subst hR; exact ⟨rfl, rfl, rfl⟩) dX10_account_221
  rw [if_neg h7] at hR
  by_cases h8 : p1 = 7
  · rw [if_pos h8] at hR
    refine lv_tableIn (off := 149) (tgt := 150) hx hb dX10_account_1 (by rw [h8]; decide) (by rw [h8]; decide) (by rw [h8]; decide) (by decide) ?_
    refine lv_aload_n hx hb dX10_account_150 rfl (lv_at hl 0 rfl) ?_
    refine q_get hx hb hg in_X10 hown hK hI hL0 rfl 0 (by decide) (hg _ wf_X10_10) (fun _ h9 => h9) rfl dX10_account_151 ?_
    refine q_getN hx hb hg in_X5 hown hK hI hL1.1 rfl 5 (by decide) (hK.2 _ (List.mem_of_getElem? (i := 17) rfl)) (fun _ h9 => h9) rfl dX10_account_154 ?_
    refine lv_goto (tgt := 221) hx hb dX10_account_157 (by decide) ?_
    exact q_iret hx hb hret hlk hN hI (by subst hR; exact ⟨rfl, rfl, rfl⟩) dX10_account_221
  rw [if_neg h8] at hR
  by_cases h9 : p1 = 8
  · rw [if_pos h9] at hR
    refine lv_tableIn (off := 159) (tgt := 160) hx hb dX10_account_1 (by rw [h9]; decide) (by rw [h9]; decide) (by rw [h9]; decide) (by decide) ?_
    refine lv_aload_n hx hb dX10_account_160 rfl (lv_at hl 0 rfl) ?_
    refine q_get hx hb hg in_X10 hown hK hI hL0 rfl 0 (by decide) (hg _ wf_X10_10) (fun _ h9 => h9) rfl dX10_account_161 ?_
    refine q_getN hx hb hg in_X5 hown hK hI hL1.1 rfl 2 (by decide) (hK.2 _ (List.mem_of_getElem? (i := 14) rfl)) (fun _ h9 => h9) rfl dX10_account_164 ?_
    refine q_goR (q_runV (As := []) (rest := []) hx hb hml hown hg (c_X7_countUnderway l D cs hL1.2.2.2) v_X7_countUnderway wl_X10_295 rfl rfl ⟨Nat.le_of_ble_eq_true rfl, Nat.le_of_ble_eq_true rfl⟩ hI hK 8 hL1.2.2.2.1 rfl hl.1 rfl rfl (Nat.le_of_ble_eq_true rfl) dX10_account_167 ⟨Nat.le_of_ble_eq_true rfl, Nat.le_of_ble_eq_true rfl⟩) hI (fun H locs hI => ?_)
    refine lv_goto (tgt := 221) hx hb dX10_account_170 (by decide) ?_
    exact q_iret hx hb hret hlk hN hI (by subst hR; exact ⟨rfl, rfl, rfl⟩) dX10_account_221
  rw [if_neg h9] at hR
  by_cases h10 : p1 = 9
  · rw [if_pos h10] at hR
    refine lv_tableIn (off := 172) (tgt := 173) hx hb dX10_account_1 (by rw [h10]; decide) (by rw [h10]; decide) (by rw [h10]; decide) (by decide) ?_
    refine lv_aload_n hx hb dX10_account_173 rfl (lv_at hl 0 rfl) ?_
    refine q_get hx hb hg in_X10 hown hK hI hL0 rfl 0 (by decide) (hg _ wf_X10_10) (fun _ h9 => h9) rfl dX10_account_174 ?_
    refine q_getN hx hb hg in_X5 hown hK hI hL1.1 rfl 2 (by decide) (hK.2 _ (List.mem_of_getElem? (i := 14) rfl)) (fun _ h9 => h9) rfl dX10_account_177 ?_
    refine q_goR (q_runV (As := []) (rest := []) hx hb hml hown hg (c_X7_countArrived l D cs hL1.2.2.2) v_X7_countArrived wl_X10_298 rfl rfl ⟨Nat.le_of_ble_eq_true rfl, Nat.le_of_ble_eq_true rfl⟩ hI hK 8 hL1.2.2.2.1 rfl hl.1 rfl rfl (Nat.le_of_ble_eq_true rfl) dX10_account_180 ⟨Nat.le_of_ble_eq_true rfl, Nat.le_of_ble_eq_true rfl⟩) hI (fun H locs hI => ?_)
    refine lv_goto (tgt := 221) hx hb dX10_account_183 (by decide) ?_
    exact q_iret hx hb hret hlk hN hI (by subst hR; exact ⟨rfl, rfl, rfl⟩) dX10_account_221
  rw [if_neg h10] at hR
  by_cases h11 : p1 = 10
  · rw [if_pos h11] at hR
    refine lv_tableIn (off := 185) (tgt := 186) hx hb dX10_account_1 (by rw [h11]; decide) (by rw [h11]; decide) (by rw [h11]; decide) (by decide) ?_
    refine lv_aload_n hx hb dX10_account_186 rfl (lv_at hl 0 rfl) ?_
    refine q_get hx hb hg in_X10 hown hK hI hL0 rfl 0 (by decide) (hg _ wf_X10_10) (fun _ h9 => h9) rfl dX10_account_187 ?_
    refine q_getN hx hb hg in_X5 hown hK hI hL1.1 rfl 2 (by decide) (hK.2 _ (List.mem_of_getElem? (i := 14) rfl)) (fun _ h9 => h9) rfl dX10_account_190 ?_
    refine q_goR (q_runV (As := []) (rest := []) hx hb hml hown hg (c_X7_arrivedLoads l D cs hL1.2.2.2) v_X7_arrivedLoads wl_X10_301 rfl rfl ⟨Nat.le_of_ble_eq_true rfl, Nat.le_of_ble_eq_true rfl⟩ hI hK 8 hL1.2.2.2.1 rfl hl.1 rfl rfl (Nat.le_of_ble_eq_true rfl) dX10_account_193 ⟨Nat.le_of_ble_eq_true rfl, Nat.le_of_ble_eq_true rfl⟩) hI (fun H locs hI => ?_)
    refine lv_goto (tgt := 221) hx hb dX10_account_196 (by decide) ?_
    exact q_iret hx hb hret hlk hN hI (by subst hR; exact ⟨rfl, rfl, rfl⟩) dX10_account_221
  rw [if_neg h11] at hR
  by_cases h12 : p1 = 11
  · rw [if_pos h12] at hR
    refine lv_tableIn (off := 198) (tgt := 199) hx hb dX10_account_1 (by rw [h12]; decide) (by rw [h12]; decide) (by rw [h12]; decide) (by decide) ?_
    refine lv_aload_n hx hb dX10_account_199 rfl (lv_at hl 0 rfl) ?_
    refine q_get hx hb hg in_X10 hown hK hI hL0 rfl 4 (by decide) (hg _ wf_X10_32) (fun _ h9 => h9) rfl dX10_account_200 ?_
    refine q_getN hx hb hg in_X3 hown hK hI hL3.1 rfl 4 (by decide) (hK.2 _ (List.mem_of_getElem? (i := 22) rfl)) (fun _ h9 => h9) rfl dX10_account_203 ?_
    refine lv_goto (tgt := 221) hx hb dX10_account_206 (by decide) ?_
    exact q_iret hx hb hret hlk hN hI (by subst hR; exact ⟨rfl, rfl, rfl⟩) dX10_account_221
  rw [if_neg h12] at hR
  by_cases h13 : p1 = 12
  · rw [if_pos h13] at hR
    refine lv_tableIn (off := 208) (tgt := 209) hx hb dX10_account_1 (by rw [h13]; decide) (by rw [h13]; decide) (by rw [h13]; decide) (by decide) ?_
    refine lv_aload_n hx hb dX10_account_209 rfl (lv_at hl 0 rfl) ?_
    refine q_get hx hb hg in_X10 hown hK hI hL0 rfl 3 (by decide) (hg _ wf_X10_25) (fun _ h9 => h9) rfl dX10_account_210 ?_
    refine q_getN hx hb hg in_X2 hown hK hI hL2.1 rfl 2 (by decide) (hK.2 _ (List.mem_of_getElem? (i := 18) rfl)) (fun _ h9 => h9) rfl dX10_account_213 ?_
    refine lv_goto (tgt := 221) hx hb dX10_account_216 (by decide) ?_
    exact q_iret hx hb hret hlk hN hI (by subst hR; exact ⟨rfl, rfl, rfl⟩) dX10_account_221
  rw [if_neg h13] at hR
  refine lv_tableOut (tgt := 219) hx hb dX10_account_1 (q_tbl (n := 12) (by decide) (fun j hj => by
    have hj2 : j = 0 ∨ j = 1 ∨ j = 2 ∨ j = 3 ∨ j = 4 ∨ j = 5 ∨ j = 6 ∨ j = 7 ∨ j = 8 ∨ j = 9 ∨ j = 10 ∨ j = 11 ∨ j = 12 := by omega
    rcases hj2 with rfl | rfl | rfl | rfl | rfl | rfl | rfl | rfl | rfl | rfl | rfl | rfl | rfl
    · exact h1
    · exact h2
    · exact h3
    · exact h4
    · exact h5
    · exact h6
    · exact h7
    · exact h8
    · exact h9
    · exact h10
    · exact h11
    · exact h12
    · exact h13)) (by decide) ?_
  refine lv_bipush (v := (-2)) hx hb dX10_account_219 (by decide) ?_
  exact q_iret hx hb hret hlk hN hI (by subst hR; exact ⟨rfl, rfl, rfl⟩) dX10_account_221
