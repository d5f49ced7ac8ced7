theorem q_mu2 {b x : Int32} {n : Nat} (h : x < b) (hm : qmu b x < n + 1) : qmu b (x + 1) < n := q_mu (fun z => by rw [Int32.le_iff_toInt_le] at z; rw [Int32.lt_iff_toInt_lt] at h; omega) hm
def s_X10_writeTree (u : qTV) : Nat → qNV → Int32 → Int32 → qNV
  | 0, _, _, _ => default
  | n + 1, v, p2, p3 => (if p2 < 0 then v else (if p3 < 16 then (s_X4_addSign (s_X10_writeTree u n (s_X4_addNumber (s_X10_writeTree u n (s_X4_addSign v 40) (s_X8_leftOf u p2) (p3 + 1)) p2) (s_X8_rightOf u p2) (p3 + 1)) 41) else v))
set_option maxHeartbeats 4000000 in
set_option maxRecDepth 20000 in
theorem c_X10_writeTree (l : Launch) (D : va_G) (cs : qC) : ∀ (n : Nat) {M0 : qM} {N a b : Nat} {v : qNV} {u : qTV} (hL0 : qLN cs M0 a v) (hL1 : qLT cs M0 b u) (hd0 : a + 2 ≤ b ∨ b + 4 ≤ a) (p2 p3 : Int32), qmu 16 p3 < n →
    qMet l D cs yX10_writeTree (qws yX10_writeTree cX10_writeTree 4 none) ({ frames := n + 4, cells := 0, slots := 0, locals := 40 * n + 120 } : Room) M0 N [.ref a, .ref b, .int p2, .int p3] (qMod N none (fun M' => qLN cs M' a (s_X10_writeTree u n v p2 p3) ∧ qFr (qIn a 2) M0 M')) 0 0 := by
  intro n
  induction n with
  | zero => intro M0 N a b v u hL0 hL1 hd0 p2 p3 hm; exact absurd hm (Nat.not_lt_zero _)
  | succ n ih =>
    intro M0 N a b v u hL0 hL1 hd0 p2 p3 hm
    obtain ⟨R, hR⟩ : ∃ R, s_X10_writeTree u (n + 1) v p2 p3 = R := ⟨_, rfl⟩
    rw [hR]
    rw [s_X10_writeTree] at hR
    refine q_head (by decide +kernel) ?_ (Nat.le_of_ble_eq_true rfl)
    intro p e s m below meth c ls hx hb hret hlk hml hown hnm hg hK hN hI hl
    have hl : lv_has ls 4 [(0, .ref a), (1, .ref b), (2, .int p2), (3, .int p3)] := hl
    have hS : qFr (qIn a 2) M0 M0 := qFr.rf
    refine lv_iload_n hx hb dX10_writeTree_0 rfl (lv_at hl 2 rfl) ?_
    refine lv_if_lt (tgt := 10) hx hb dX10_writeTree_1 (by decide) (fun c1 => ?_) (fun c1 => ?_)
    · rw [if_pos c1] at hR
      exact q_vret (st := []) hx hb hret hlk hN hI (by subst hR; exact ⟨rfl, ⟨hL0, hS⟩, rfl⟩) dX10_writeTree_10
    · rw [if_neg c1] at hR
      refine lv_iload_n hx hb dX10_writeTree_4 rfl (lv_at hl 3 rfl) ?_
      refine lv_bipush (v := 16) hx hb dX10_writeTree_5 (by decide) ?_
      refine lv_icmp_lt (tgt := 11) hx hb dX10_writeTree_7 (by decide) (fun c2 => ?_) (fun c2 => ?_)
      · rw [if_pos c2] at hR
        refine lv_aload_n hx hb dX10_writeTree_11 rfl (lv_at hl 0 rfl) ?_
        refine lv_bipush (v := 40) hx hb dX10_writeTree_12 (by decide) ?_
        refine q_goN (q_runV (As := [.int 40]) (rest := []) hx hb hml hown hg (c_X4_addSign l D cs hL0 40) v_X4_addSign wl_X10_261 rfl rfl ⟨by dsimp only; omega, by dsimp only; omega⟩ hI hK 5 hL0.1 rfl hl.1 rfl rfl (Nat.le_of_ble_eq_true rfl) dX10_writeTree_14 ⟨Nat.le_of_ble_eq_true rfl, Nat.le_of_ble_eq_true rfl⟩) hI (fun M H locs hp hI => ?_)
        obtain ⟨hn0, hF⟩ := hp
        generalize heg3 : s_X4_addSign v 40 = g3 at hn0 hR
        have hn := hn0
        have hL0 := hn
        have hL1 := hL1.fr hF (fun q h1 h2 hq => by omega)
        have hS := hS.tr hF (fun q hq => by omega)
        refine lv_aload_n hx hb dX10_writeTree_17 rfl (lv_at hl 0 rfl) ?_
        refine lv_aload_n hx hb dX10_writeTree_18 rfl (lv_at hl 1 rfl) ?_
        refine lv_aload_n hx hb dX10_writeTree_19 rfl (lv_at hl 1 rfl) ?_
        refine lv_iload_n hx hb dX10_writeTree_20 rfl (lv_at hl 2 rfl) ?_
        refine q_goR (q_runV (As := [.int p2]) (rest := [.ref b, .ref a]) hx hb hml hown hg (c_X8_leftOf l D cs hL1 p2) v_X8_leftOf wl_X10_181 rfl rfl ⟨by dsimp only; omega, by dsimp only; omega⟩ hI hK 9 hL1.1 rfl hl.1 rfl rfl (Nat.le_of_ble_eq_true rfl) dX10_writeTree_21 ⟨Nat.le_of_ble_eq_true rfl, Nat.le_of_ble_eq_true rfl⟩) hI (fun H locs hI => ?_)
        refine lv_iload_n hx hb dX10_writeTree_24 rfl (lv_at hl 3 rfl) ?_
        refine lv_iconst (v := 1) hx hb dX10_writeTree_25 (by decide) ?_
        refine lv_iadd hx hb dX10_writeTree_26 ?_
        refine q_goN (q_runS (As := [.ref a, .ref b, .int (s_X8_leftOf u p2), .int (p3 + 1)]) (rest := []) hx hb hml hown hg (ih hL0 hL1 (by omega) (s_X8_leftOf u p2) (p3 + 1) (q_mu2 c2 hm)) v_X10_writeTree wl_X10_251 rfl rfl ⟨by dsimp only; omega, by dsimp only; omega⟩ hI hK hl.1 rfl rfl (Nat.le_of_ble_eq_true rfl) dX10_writeTree_27 ⟨Nat.le_of_ble_eq_true rfl, Nat.le_of_ble_eq_true rfl⟩) hI (fun M H locs hp hI => ?_)
        obtain ⟨hn0, hF⟩ := hp
        generalize heg4 : s_X10_writeTree u n g3 (s_X8_leftOf u p2) (p3 + 1) = g4 at hn0 hR
        have hn := hn0
        have hL0 := hn
        have hL1 := hL1.fr hF (fun q h1 h2 hq => by omega)
        have hS := hS.tr hF (fun q hq => by omega)
        refine lv_aload_n hx hb dX10_writeTree_30 rfl (lv_at hl 0 rfl) ?_
        refine lv_iload_n hx hb dX10_writeTree_31 rfl (lv_at hl 2 rfl) ?_
        refine q_goN (q_runV (As := [.int p2]) (rest := []) hx hb hml hown hg (c_X4_addNumber l D cs hL0 p2) v_X4_addNumber wl_X10_335 rfl rfl ⟨by dsimp only; omega, by dsimp only; omega⟩ hI hK 5 hL0.1 rfl hl.1 rfl rfl (Nat.le_of_ble_eq_true rfl) dX10_writeTree_32 ⟨Nat.le_of_ble_eq_true rfl, Nat.le_of_ble_eq_true rfl⟩) hI (fun M H locs hp hI => ?_)
        obtain ⟨hn0, hF⟩ := hp
        generalize heg5 : s_X4_addNumber g4 p2 = g5 at hn0 hR
        have hn := hn0
        have hL0 := hn
        have hL1 := hL1.fr hF (fun q h1 h2 hq => by omega)
        have hS := hS.tr hF (fun q hq => by omega)
        refine lv_aload_n hx hb dX10_writeTree_35 rfl (lv_at hl 0 rfl) ?_
        refine lv_aload_n hx hb dX10_writeTree_36 rfl (lv_at hl 1 rfl) ?_
        refine lv_aload_n hx hb dX10_writeTree_37 rfl (lv_at hl 1 rfl) ?_
        refine lv_iload_n hx hb dX10_writeTree_38 rfl (lv_at hl 2 rfl) ?_
        refine q_goR (q_runV (As := [.int p2]) (rest := [.ref b, .ref a]) hx hb hml hown hg (c_X8_rightOf l D cs hL1 p2) v_X8_rightOf wl_X10_186 rfl rfl ⟨by dsimp only; omega, by dsimp only; omega⟩ hI hK 9 hL1.1 rfl hl.1 rfl rfl (Nat.le_of_ble_eq_true rfl) dX10_writeTree_39 ⟨Nat.le_of_ble_eq_true rfl, Nat.le_of_ble_eq_true rfl⟩) hI (fun H locs hI => ?_)
        refine lv_iload_n hx hb dX10_writeTree_42 rfl (lv_at hl 3 rfl) ?_
        refine lv_iconst (v := 1) hx hb dX10_writeTree_43 (by decide) ?_
        refine lv_iadd hx hb dX10_writeTree_44 ?_
        refine q_goN (q_runS (As := [.ref a, .ref b, .int (s_X8_rightOf u p2), .int (p3 + 1)]) (rest := []) hx hb hml hown hg (ih hL0 hL1 (by omega) (s_X8_rightOf u p2) (p3 + 1) (q_mu2 c2 hm)) v_X10_writeTree wl_X10_251 rfl rfl ⟨by dsimp only; omega, by dsimp only; omega⟩ hI hK hl.1 rfl rfl (Nat.le_of_ble_eq_true rfl) dX10_writeTree_45 ⟨Nat.le_of_ble_eq_true rfl, Nat.le_of_ble_eq_true rfl⟩) hI (fun M H locs hp hI => ?_)
        obtain ⟨hn0, hF⟩ := hp
        generalize heg6 : s_X10_writeTree u n g5 (s_X8_rightOf u p2) (p3 + 1) = g6 at hn0 hR
        have hn := hn0
        have hL0 := hn
        have hL1 := hL1.fr hF (fun q h1 h2 hq => by omega)
        have hS := hS.tr hF (fun q hq => by omega)
        refine lv_aload_n hx hb dX10_writeTree_48 rfl (lv_at hl 0 rfl) ?_
        refine lv_bipush (v := 41) hx hb dX10_writeTree_49 (by decide) ?_
        refine q_goN (q_runV (As := [.int 41]) (rest := []) hx hb hml hown hg (c_X4_addSign l D cs hL0 41) v_X4_addSign wl_X10_261 rfl rfl ⟨by dsimp only; omega, by dsimp only; omega⟩ hI hK 5 hL0.1 rfl hl.1 rfl rfl (Nat.le_of_ble_eq_true rfl) dX10_writeTree_51 ⟨Nat.le_of_ble_eq_true rfl, Nat.le_of_ble_eq_true rfl⟩) hI (fun M H locs hp hI => ?_)
        obtain ⟨hn0, hF⟩ := hp
        generalize heg7 : s_X4_addSign g6 41 = g7 at hn0 hR
        have hn := hn0
        have hL0 := hn
        have hL1 := hL1.fr hF (fun q h1 h2 hq => by omega)
        have hS := hS.tr hF (fun q hq => by omega)
        exact q_vret (st := []) hx hb hret hlk hN hI (by subst hR; exact ⟨rfl, ⟨hL0, hS⟩, rfl⟩) dX10_writeTree_54
      · rw [if_neg c2] at hR
        exact q_vret (st := []) hx hb hret hlk hN hI (by subst hR; exact ⟨rfl, ⟨hL0, hS⟩, rfl⟩) dX10_writeTree_10
theorem c_X10_writeTreeT (l : Launch) (D : va_G) (cs : qC) {M0 : qM} {N a b : Nat} {v : qNV} {u : qTV} (hL0 : qLN cs M0 a v) (hL1 : qLT cs M0 b u) (hd0 : a + 2 ≤ b ∨ b + 4 ≤ a) (p2 p3 : Int32) (hp : p3 = 0 := by rfl) :
    qMet l D cs yX10_writeTree (qws yX10_writeTree cX10_writeTree 4 none) ({ frames := 21, cells := 0, slots := 0, locals := 800 } : Room) M0 N [.ref a, .ref b, .int p2, .int p3] (qMod N none (fun M' => qLN cs M' a (s_X10_writeTree u 17 v p2 p3) ∧ qFr (qIn a 2) M0 M')) 0 0 := c_X10_writeTree l D cs 17 hL0 hL1 hd0 p2 p3 (by rw [hp]; decide)
def s_X10_tellTree (f : (Int32 × Int32)) (q : qQV) (n : qNV) (p1 : Int32) : Int32 × qNV := (if (qbi (s_X1_isThere q.1 p1)) = 0 then ((-1), n) else ((s_X10_writeTree q.2.1 17 (s_X4_makeEmpty n) (s_X8_headOf q.2.1 p1) 0).2, (s_X10_writeTree q.2.1 17 (s_X4_makeEmpty n) (s_X8_headOf q.2.1 p1) 0)))
set_option maxHeartbeats 4000000 in
set_option maxRecDepth 20000 in
theorem c_X10_tellTree (l : Launch) (D : va_G) (cs : qC) {M0 : qM} {N a : Nat} {f : (Int32 × Int32)} {q : qQV} {n : qNV} (hL0 : qLX cs M0 a f) (hL1 : qLQ cs M0 (a + 1) q) (hL2 : qLN cs M0 (a + 164) n) (p1 : Int32) :
    qMet l D cs yX10_tellTree (qws yX10_tellTree cX10_tellTree 2 (some .int)) ({ frames := 22, cells := 0, slots := 0, locals := 823 } : Room) M0 N [.ref a, .int p1] (qMod N (some (.int ((s_X10_tellTree f q n p1).1))) (fun M' => qLN cs M' (a + 164) ((s_X10_tellTree f q n p1).2) ∧ qFr (qIn (a + 164) 2) M0 M')) 0 0 := by
  obtain ⟨R, hR⟩ : ∃ R, s_X10_tellTree f q n p1 = R := ⟨_, rfl⟩
  rw [hR]
  rw [s_X10_tellTree] at hR
  refine q_head (by decide +kernel) ?_ (Nat.le_of_ble_eq_true rfl)
  intro p e s m below meth c ls hx hb hret hlk hml hown hnm hg hK hN hI hl
  have hl : lv_has ls 2 [(0, .ref a), (1, .int p1)] := hl
  have hS : qFr (qIn (a + 164) 2) M0 M0 := qFr.rf
  refine lv_aload_n hx hb dX10_tellTree_0 rfl (lv_at hl 0 rfl) ?_
  refine q_get hx hb hg in_X10 hown hK hI hL0 rfl 0 (by decide) (hg _ wf_X10_10) (fun _ h9 => h9) rfl dX10_tellTree_1 ?_
  refine q_getN hx hb hg in_X5 hown hK hI hL1.1 rfl 0 (by decide) (hK.2 _ (List.mem_of_getElem? (i := 12) rfl)) (fun _ h9 => h9) rfl dX10_tellTree_4 ?_
  refine lv_iload_n hx hb dX10_tellTree_7 rfl (lv_at hl 1 rfl) ?_
  refine q_goR (q_runV (As := [.int p1]) (rest := []) hx hb hml hown hg (c_X1_isThere l D cs hL1.2.1 p1) v_X1_isThere wl_X10_143 rfl rfl ⟨Nat.le_of_ble_eq_true rfl, Nat.le_of_ble_eq_true rfl⟩ hI hK 2 hL1.2.1.1 rfl hl.1 rfl rfl (Nat.le_of_ble_eq_true rfl) dX10_tellTree_8 ⟨Nat.le_of_ble_eq_true rfl, Nat.le_of_ble_eq_true rfl⟩) hI (fun H locs hI => ?_)
  refine lv_if_ne (tgt := 16) hx hb dX10_tellTree_11 (by decide) (fun c1 => ?_) (fun c1 => ?_)
  · rw [if_neg c1] at hR
    refine lv_aload_n hx hb dX10_tellTree_16 rfl (lv_at hl 0 rfl) ?_
    refine q_get hx hb hg in_X10 hown hK hI hL0 rfl 5 (by decide) (hg _ wf_X10_39) (fun _ h9 => h9) rfl dX10_tellTree_17 ?_
    refine q_goN (q_runV (As := []) (rest := []) hx hb hml hown hg (c_X4_makeEmpty l D cs hL2) v_X4_makeEmpty wl_X10_250 rfl rfl ⟨Nat.le_of_ble_eq_true rfl, Nat.le_of_ble_eq_true rfl⟩ hI hK 5 hL2.1 rfl hl.1 rfl rfl (Nat.le_of_ble_eq_true rfl) dX10_tellTree_20 ⟨Nat.le_of_ble_eq_true rfl, Nat.le_of_ble_eq_true rfl⟩) hI (fun M H locs hp hI => ?_)
    obtain ⟨hn0, hF⟩ := hp
    generalize heg2 : s_X4_makeEmpty n = g2 at hn0 hR
    have hn := hn0
    have hL2 := hn
    have hL0 := hL0.fr hF (fun q h1 h2 hq => by omega)
    have hL1 := hL1.fr hF (fun q h1 h2 hq => by omega)
    have hS := hS.tr hF (fun q hq => by omega)
    refine lv_aload_n hx hb dX10_tellTree_23 rfl (lv_at hl 0 rfl) ?_
    refine q_get hx hb hg in_X10 hown hK hI hL0 rfl 5 (by decide) (hg _ wf_X10_39) (fun _ h9 => h9) rfl dX10_tellTree_24 ?_
    refine lv_aload_n hx hb dX10_tellTree_27 rfl (lv_at hl 0 rfl) ?_
    refine q_get hx hb hg in_X10 hown hK hI hL0 rfl 0 (by decide) (hg _ wf_X10_10) (fun _ h9 => h9) rfl dX10_tellTree_28 ?_
    refine q_getN hx hb hg in_X5 hown hK hI hL1.1 rfl 1 (by decide) (hK.2 _ (List.mem_of_getElem? (i := 13) rfl)) (fun _ h9 => h9) rfl dX10_tellTree_31 ?_
    refine lv_aload_n hx hb dX10_tellTree_34 rfl (lv_at hl 0 rfl) ?_
    refine q_get hx hb hg in_X10 hown hK hI hL0 rfl 0 (by decide) (hg _ wf_X10_10) (fun _ h9 => h9) rfl dX10_tellTree_35 ?_
    refine q_getN hx hb hg in_X5 hown hK hI hL1.1 rfl 1 (by decide) (hK.2 _ (List.mem_of_getElem? (i := 13) rfl)) (fun _ h9 => h9) rfl dX10_tellTree_38 ?_
    refine lv_iload_n hx hb dX10_tellTree_41 rfl (lv_at hl 1 rfl) ?_
    refine q_goR (q_runV (As := [.int p1]) (rest := [.ref (a + 1 + 4), .ref (a + 164)]) hx hb hml hown hg (c_X8_headOf l D cs hL1.2.2.1 p1) v_X8_headOf wl_X10_192 rfl rfl ⟨Nat.le_of_ble_eq_true rfl, Nat.le_of_ble_eq_true rfl⟩ hI hK 9 hL1.2.2.1.1 rfl hl.1 rfl rfl (Nat.le_of_ble_eq_true rfl) dX10_tellTree_42 ⟨Nat.le_of_ble_eq_true rfl, Nat.le_of_ble_eq_true rfl⟩) hI (fun H locs hI => ?_)
    refine lv_iconst (v := 0) hx hb dX10_tellTree_45 (by decide) ?_
    refine q_goN (q_runS (As := [.ref (a + 164), .ref (a + 1 + 4), .int (s_X8_headOf q.2.1 p1), .int 0]) (rest := []) hx hb hml hown hg (c_X10_writeTreeT l D cs hL2 hL1.2.2.1 (by omega) (s_X8_headOf q.2.1 p1) 0) v_X10_writeTree wl_X10_251 rfl rfl ⟨Nat.le_of_ble_eq_true rfl, Nat.le_of_ble_eq_true rfl⟩ hI hK hl.1 rfl rfl (Nat.le_of_ble_eq_true rfl) dX10_tellTree_46 ⟨Nat.le_of_ble_eq_true rfl, Nat.le_of_ble_eq_true rfl⟩) hI (fun M H locs hp hI => ?_)
    obtain ⟨hn0, hF⟩ := hp
    generalize heg3 : s_X10_writeTree q.2.1 17 g2 (s_X8_headOf q.2.1 p1) 0 = g3 at hn0 hR
    have hn := hn0
    have hL2 := hn
    have hL0 := hL0.fr hF (fun q h1 h2 hq => by omega)
    have hL1 := hL1.fr hF (fun q h1 h2 hq => by omega)
    have hS := hS.tr hF (fun q hq => by omega)
    refine lv_aload_n hx hb dX10_tellTree_49 rfl (lv_at hl 0 rfl) ?_
    refine q_get hx hb hg in_X10 hown hK hI hL0 rfl 5 (by decide) (hg _ wf_X10_39) (fun _ h9 => h9) rfl dX10_tellTree_50 ?_
    refine q_getN hx hb hg in_X4 hown hK hI hL2.1 rfl 1 (by decide) (hK.2 _ (List.mem_of_getElem? (i := 26) rfl)) (fun _ h9 => h9) rfl dX10_tellTree_53 ?_
    exact q_iret hx hb hret hlk hN hI (by subst hR; exact ⟨rfl, ⟨hL2, hS⟩, rfl⟩) dX10_tellTree_56
  · rw [if_pos c1] at hR
    refine lv_iconst (v := (-1)) hx hb dX10_tellTree_14 (by decide) ?_
    exact q_iret hx hb hret hlk hN hI (by subst hR; exact ⟨rfl, ⟨hL2, hS⟩, rfl⟩) dX10_tellTree_15
