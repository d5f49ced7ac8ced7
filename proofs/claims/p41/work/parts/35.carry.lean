/-! CARRY OUT -/
def s_co (k : Nat) (q : qQV) (rs : qRV) (f g : Int32) : Int32 × qQV × qRV :=
  match k with
  | 0 => s_X5_addBlock q rs f
  | 1 => s_X5_hangOn q rs f g
  | 2 => s_X5_cutOff q rs f
  | 3 => ((s_X5_walkTo q f).1, (s_X5_walkTo q f).2, rs)
  | 4 => ((s_X5_goUp q f).1, (s_X5_goUp q f).2, rs)
  | 5 => s_X5_changeWeight q rs f g
  | 6 => s_X5_setSledge q rs f
  | 7 => s_X5_pullSledges q rs
  | _ => ((-1), q, rs)
def s_X10_carryOut (q : qQV) (i : qIV) (rs : qRV) (x : Int32) : Int32 × qQV × qRV := if s_X3_wordOf i x < 0 then ((-1), q, rs) else s_co (s_X3_wordOf i x).toNatClampNeg q rs (rowAt i.2.2.1 x) (rowAt i.2.2.2.1 x)
theorem s_wordOf_lt {v : qIV} (h : ∀ j : Nat, (v.2.1.getD j (-1)).toNatClampNeg < 8) (x : Int32) : (s_X3_wordOf v x).toNatClampNeg < 8 := by
  have h0 : ((-1 : Int32)).toNatClampNeg < 8 := by decide
  unfold s_X3_wordOf
  split
  · exact h0
  split
  · exact h0
  split
  · exact h0
  exact h _
set_option maxHeartbeats 8000000 in
theorem c_X10_carryOut (l : Launch) (D : va_G) (cs : qC) {N00 : Nat} {M0 : qM} {N a : Nat} {f : (Int32 × Int32)} {q : qQV} {i : qIV} {rs : qRV} (hd : qDom N00 M0 N) (hL0 : qLX cs M0 a f) (hL1 : qLQ cs M0 (a + 1) q) (hL2 : qLI cs M0 (a + 159) i) (hL3 : qLR cs M0 (a + 166) rs) (p1 : Int32) :
    qMetZ l D cs N00 yX10_carryOut (qws yX10_carryOut cX10_carryOut 5 (some .int)) (qRm 6 150) M0 N [.ref a, .int p1] (qMod N (some (.int (s_X10_carryOut q i rs p1).1)) (fun M' => qLQ cs M' (a + 1) (s_X10_carryOut q i rs p1).2.1 ∧ qLR cs M' (a + 166) (s_X10_carryOut q i rs p1).2.2 ∧ qFr (fun q => qIn (a + 1) 13 q ∨ qIn (a + 166) 1 q) M0 M')) 0 0 := by
  obtain ⟨R, hR⟩ : ∃ R, s_X10_carryOut q i rs p1 = R := ⟨_, rfl⟩
  rw [hR]
  rw [s_X10_carryOut] at hR
  refine z_head (by decide +kernel) ?_ (Nat.le_of_ble_eq_true rfl)
  intro p e s m below meth c ls hx hb hret hlk hml hown hnm hg hK hN hZ hI hl
  have hl : lv_has ls 5 [(0, .ref a), (1, .int p1)] := hl
  have hS : qFr (fun q => qIn (a + 1) 13 q ∨ qIn (a + 166) 1 q) M0 M0 := qFr.rf
  have hlt : (s_X3_wordOf i p1).toNatClampNeg < 8 := s_wordOf_lt hL2.2.2.2.2.2.2 p1
  refine lv_aload_n hx hb dX10_carryOut_0 rfl (lv_at hl 0 rfl) ?_
  refine q_get hx hb hg in_X10 hown hK hI hL0 rfl 4 (by decide) (hg _ wf_X10_32) (fun _ h9 => h9) rfl dX10_carryOut_1 ?_
  refine lv_iload_n hx hb dX10_carryOut_4 rfl (lv_at hl 1 rfl) ?_
  refine q_goR (q_runV (As := [.int p1]) (rest := []) hx hb hml hown hg (c_X3_wordOf l D cs hL2 p1) v_X3_wordOf wl_X10_310 rfl rfl ⟨Nat.le_of_ble_eq_true rfl, Nat.le_of_ble_eq_true rfl⟩ hI hK 4 hL2.1 rfl hl.1 rfl rfl (Nat.le_of_ble_eq_true rfl) dX10_carryOut_5 ⟨Nat.le_of_ble_eq_true rfl, Nat.le_of_ble_eq_true rfl⟩) hI (fun H locs hI => ?_)
  generalize hw : s_X3_wordOf i p1 = w at hR hlt ⊢
  by_cases c1 : w < 0
  · rw [if_pos c1] at hR
    rw [qWd_neg c1]
    refine lv_astore_nN (lv' := [(2, .null), (0, .ref a), (1, .int p1)]) hx hb dX10_carryOut_8 rfl hl (by decide) rfl (fun ls hl => ?_)
    refine lv_aload_nN hx hb dX10_carryOut_9 rfl (lv_at hl 0 rfl) ?_
    refine lv_ifnonnullN hx hb dX10_carryOut_10 ?_
    refine lv_iconst (v := (-1)) hx hb dX10_carryOut_13 (by decide) ?_
    exact q_iret hx hb hret hlk hN hI (by subst hR; exact ⟨rfl, ⟨hL1, hL3, hS⟩, rfl⟩) dX10_carryOut_14
  rw [if_neg c1] at hR
  rw [qWd_pos c1]
  generalize hk : w.toNatClampNeg = k at hR hlt ⊢
  refine lv_astore_n (lv' := [(2, .ref (cs (16 + k))), (0, .ref a), (1, .int p1)]) hx hb dX10_carryOut_8 rfl hl (by decide) rfl (fun ls hl => ?_)
  refine lv_aload_n hx hb dX10_carryOut_9 rfl (lv_at hl 0 rfl) ?_
  refine lv_ifnonnull (tgt := 15) hx hb dX10_carryOut_10 (by decide) ?_
  refine lv_aload_n hx hb dX10_carryOut_15 rfl (lv_at hl 1 rfl) ?_
  refine q_get hx hb hg in_X10 hown hK hI hL0 rfl 4 (by decide) (hg _ wf_X10_32) (fun _ h9 => h9) rfl dX10_carryOut_16 ?_
  refine q_getN hx hb hg in_X3 hown hK hI hL2.1 rfl 2 (by decide) (hK.2 _ (List.mem_of_getElem? (i := 20) rfl)) (fun _ h9 => h9) rfl dX10_carryOut_19 ?_
  refine lv_iload_n hx hb dX10_carryOut_22 rfl (lv_at hl 2 rfl) ?_
  refine q_goR (q_runS (As := [.ref (a + 159 + 3), .int p1]) (rest := []) hx hb hml hown hg (c_X10_at l D cs hL2.2.2.1 p1) v_X10_at wl_X10_318 rfl rfl ⟨Nat.le_of_ble_eq_true rfl, Nat.le_of_ble_eq_true rfl⟩ hI hK hl.1 rfl rfl (Nat.le_of_ble_eq_true rfl) dX10_carryOut_23 ⟨Nat.le_of_ble_eq_true rfl, Nat.le_of_ble_eq_true rfl⟩) hI (fun H locs hI => ?_)
  generalize hfx : rowAt i.2.2.1 p1 = x at hR ⊢
  refine lv_istore_n (lv' := [(3, .int x), (2, .ref (cs (16 + k))), (0, .ref a), (1, .int p1)]) hx hb dX10_carryOut_26 rfl hl (by decide) rfl (fun ls hl => ?_)
  refine lv_aload_n hx hb dX10_carryOut_27 rfl (lv_at hl 2 rfl) ?_
  refine q_get hx hb hg in_X10 hown hK hI hL0 rfl 4 (by decide) (hg _ wf_X10_32) (fun _ h9 => h9) rfl dX10_carryOut_28 ?_
  refine q_getN hx hb hg in_X3 hown hK hI hL2.1 rfl 3 (by decide) (hK.2 _ (List.mem_of_getElem? (i := 21) rfl)) (fun _ h9 => h9) rfl dX10_carryOut_31 ?_
  refine lv_iload_n hx hb dX10_carryOut_34 rfl (lv_at hl 3 rfl) ?_
  refine q_goR (q_runS (As := [.ref (a + 159 + 4), .int p1]) (rest := []) hx hb hml hown hg (c_X10_at l D cs hL2.2.2.2.1 p1) v_X10_at wl_X10_318 rfl rfl ⟨Nat.le_of_ble_eq_true rfl, Nat.le_of_ble_eq_true rfl⟩ hI hK hl.1 rfl rfl (Nat.le_of_ble_eq_true rfl) dX10_carryOut_35 ⟨Nat.le_of_ble_eq_true rfl, Nat.le_of_ble_eq_true rfl⟩) hI (fun H locs hI => ?_)
  generalize hgx : rowAt i.2.2.2.1 p1 = y at hR ⊢
  refine lv_istore (lv' := [(4, .int y), (3, .int x), (2, .ref (cs (16 + k))), (0, .ref a), (1, .int p1)]) hx hb dX10_carryOut_38 hl (by decide) rfl (fun ls hl => ?_)
  refine va_gets hx hb hZ.2.2.2.2.1 (hI.zS hN hd) hown (hg _ wf_X10_325) (fun _ h9 => h9) dX10_carryOut_40 ?_
  refine lv_aload_n hx hb dX10_carryOut_43 rfl (lv_at hl 2 rfl) ?_
  refine z_ordinal hx hb (hl.1.trans hml.symm) hown hg (hZ.2.1 k hlt).1 (hZ.2.1 k hlt).2.1 (hI.zS hN hd) (Nat.le_of_ble_eq_true rfl) ⟨Nat.le_of_ble_eq_true rfl, Nat.le_of_ble_eq_true rfl⟩ dX10_carryOut_44 ?_
  have hkc : (nI k).toNatClampNeg = k := nI_clamp (by omega)
  refine va_ti hx hb hZ.2.2.2.2.2 (hI.zS hN hd) (by unfold vp_in; rw [hkc]; intro h; rcases h with h | h; exact nI_pos (by omega) h; omega) (v := .int (nI (k + 1))) (by rw [hkc]) dX10_carryOut_47 ?_
  have hk8 : k = 0 ∨ k = 1 ∨ k = 2 ∨ k = 3 ∨ k = 4 ∨ k = 5 ∨ k = 6 ∨ k = 7 := by omega
  rcases hk8 with rfl | rfl | rfl | rfl | rfl | rfl | rfl | rfl
  · change s_X5_addBlock q rs x = R at hR
    refine lv_tableIn (off := 48) (tgt := 96) hx hb dX10_carryOut_48 (by decide) (by decide) (by decide) (by decide) ?_
    refine lv_aload_n hx hb dX10_carryOut_96 rfl (lv_at hl 3 rfl) ?_
    refine q_get hx hb hg in_X10 hown hK hI hL0 rfl 0 (by decide) (hg _ wf_X10_10) (fun _ h9 => h9) rfl dX10_carryOut_97 ?_
    refine lv_iload_n hx hb dX10_carryOut_100 rfl (lv_at hl 1 rfl) ?_
    refine lv_aload_n hx hb dX10_carryOut_101 rfl (lv_at hl 3 rfl) ?_
    refine q_get hx hb hg in_X10 hown hK hI hL0 rfl 6 (by decide) (hg _ wf_X10_46) (fun _ h9 => h9) rfl dX10_carryOut_102 ?_
    refine q_goP (q_runV (As := [.int x, .ref (a + 166)]) (rest := []) hx hb hml hown hg (c_X5_addBlock l D cs hL1 hL3 (by omega) x) v_X5_addBlock wl_X10_81 rfl rfl ⟨Nat.le_of_ble_eq_true rfl, Nat.le_of_ble_eq_true rfl⟩ hI hK 6 hL1.1 rfl hl.1 rfl rfl (Nat.le_of_ble_eq_true rfl) dX10_carryOut_105 ⟨Nat.le_of_ble_eq_true rfl, Nat.le_of_ble_eq_true rfl⟩) hI (fun M H locs hp hI => ?_)
    obtain ⟨hn0, hn1, hF⟩ := hp
    rw [hR] at hn0 hn1 ⊢
    have hS := hS.tr hF (fun q hq => hq)
    refine lv_goto (tgt := 212) hx hb dX10_carryOut_108 (by decide) ?_
    exact q_iret hx hb hret hlk hN hI (by exact ⟨rfl, ⟨hn0, hn1, hS⟩, rfl⟩) dX10_carryOut_212
  · change s_X5_hangOn q rs x y = R at hR
    refine lv_tableIn (off := 63) (tgt := 111) hx hb dX10_carryOut_48 (by decide) (by decide) (by decide) (by decide) ?_
    refine lv_aload_n hx hb dX10_carryOut_111 rfl (lv_at hl 3 rfl) ?_
    refine q_get hx hb hg in_X10 hown hK hI hL0 rfl 0 (by decide) (hg _ wf_X10_10) (fun _ h9 => h9) rfl dX10_carryOut_112 ?_
    refine lv_iload_n hx hb dX10_carryOut_115 rfl (lv_at hl 1 rfl) ?_
    refine lv_iload hx hb dX10_carryOut_116 (lv_at hl 0 rfl) ?_
    refine lv_aload_n hx hb dX10_carryOut_118 rfl (lv_at hl 3 rfl) ?_
    refine q_get hx hb hg in_X10 hown hK hI hL0 rfl 6 (by decide) (hg _ wf_X10_46) (fun _ h9 => h9) rfl dX10_carryOut_119 ?_
    refine q_goP (q_runV (As := [.int x, .int y, .ref (a + 166)]) (rest := []) hx hb hml hown hg (c_X5_hangOn l D cs hL1 hL3 (by omega) x y) v_X5_hangOn wl_X10_89 rfl rfl ⟨Nat.le_of_ble_eq_true rfl, Nat.le_of_ble_eq_true rfl⟩ hI hK 6 hL1.1 rfl hl.1 rfl rfl (Nat.le_of_ble_eq_true rfl) dX10_carryOut_122 ⟨Nat.le_of_ble_eq_true rfl, Nat.le_of_ble_eq_true rfl⟩) hI (fun M H locs hp hI => ?_)
    obtain ⟨hn0, hn1, hF⟩ := hp
    rw [hR] at hn0 hn1 ⊢
    have hS := hS.tr hF (fun q hq => hq)
    refine lv_goto (tgt := 212) hx hb dX10_carryOut_125 (by decide) ?_
    exact q_iret hx hb hret hlk hN hI (by exact ⟨rfl, ⟨hn0, hn1, hS⟩, rfl⟩) dX10_carryOut_212
  · change s_X5_cutOff q rs x = R at hR
    refine lv_tableIn (off := 80) (tgt := 128) hx hb dX10_carryOut_48 (by decide) (by decide) (by decide) (by decide) ?_
    refine lv_aload_n hx hb dX10_carryOut_128 rfl (lv_at hl 3 rfl) ?_
    refine q_get hx hb hg in_X10 hown hK hI hL0 rfl 0 (by decide) (hg _ wf_X10_10) (fun _ h9 => h9) rfl dX10_carryOut_129 ?_
    refine lv_iload_n hx hb dX10_carryOut_132 rfl (lv_at hl 1 rfl) ?_
    refine lv_aload_n hx hb dX10_carryOut_133 rfl (lv_at hl 3 rfl) ?_
    refine q_get hx hb hg in_X10 hown hK hI hL0 rfl 6 (by decide) (hg _ wf_X10_46) (fun _ h9 => h9) rfl dX10_carryOut_134 ?_
    refine q_goP (q_runV (As := [.int x, .ref (a + 166)]) (rest := []) hx hb hml hown hg (c_X5_cutOff l D cs hL1 hL3 (by omega) x) v_X5_cutOff wl_X10_93 rfl rfl ⟨Nat.le_of_ble_eq_true rfl, Nat.le_of_ble_eq_true rfl⟩ hI hK 6 hL1.1 rfl hl.1 rfl rfl (Nat.le_of_ble_eq_true rfl) dX10_carryOut_137 ⟨Nat.le_of_ble_eq_true rfl, Nat.le_of_ble_eq_true rfl⟩) hI (fun M H locs hp hI => ?_)
    obtain ⟨hn0, hn1, hF⟩ := hp
    rw [hR] at hn0 hn1 ⊢
    have hS := hS.tr hF (fun q hq => hq)
    refine lv_goto (tgt := 212) hx hb dX10_carryOut_140 (by decide) ?_
    exact q_iret hx hb hret hlk hN hI (by exact ⟨rfl, ⟨hn0, hn1, hS⟩, rfl⟩) dX10_carryOut_212
  · change ((s_X5_walkTo q x).1, (s_X5_walkTo q x).2, rs) = R at hR
    refine lv_tableIn (off := 95) (tgt := 143) hx hb dX10_carryOut_48 (by decide) (by decide) (by decide) (by decide) ?_
    refine lv_aload_n hx hb dX10_carryOut_143 rfl (lv_at hl 3 rfl) ?_
    refine q_get hx hb hg in_X10 hown hK hI hL0 rfl 0 (by decide) (hg _ wf_X10_10) (fun _ h9 => h9) rfl dX10_carryOut_144 ?_
    refine lv_iload_n hx hb dX10_carryOut_147 rfl (lv_at hl 1 rfl) ?_
    refine q_goP (q_runV (As := [.int x]) (rest := []) hx hb hml hown hg (c_X5_walkTo l D cs hL1 x) v_X5_walkTo wl_X10_96 rfl rfl ⟨Nat.le_of_ble_eq_true rfl, Nat.le_of_ble_eq_true rfl⟩ hI hK 6 hL1.1 rfl hl.1 rfl rfl (Nat.le_of_ble_eq_true rfl) dX10_carryOut_148 ⟨Nat.le_of_ble_eq_true rfl, Nat.le_of_ble_eq_true rfl⟩) hI (fun M H locs hp hI => ?_)
    obtain ⟨hn0, hF⟩ := hp
    generalize heg : s_X5_walkTo q x = g2 at hn0 hR ⊢
    have hn1 := hL3.fr hF (fun q h1 h2 hq => by omega)
    have hS := hS.tr hF (fun q hq => Or.inl hq)
    refine lv_goto (tgt := 212) hx hb dX10_carryOut_151 (by decide) ?_
    exact q_iret hx hb hret hlk hN hI (by subst hR; exact ⟨rfl, ⟨hn0, hn1, hS⟩, rfl⟩) dX10_carryOut_212
  · change ((s_X5_goUp q x).1, (s_X5_goUp q x).2, rs) = R at hR
    refine lv_tableIn (off := 106) (tgt := 154) hx hb dX10_carryOut_48 (by decide) (by decide) (by decide) (by decide) ?_
    refine lv_aload_n hx hb dX10_carryOut_154 rfl (lv_at hl 3 rfl) ?_
    refine q_get hx hb hg in_X10 hown hK hI hL0 rfl 0 (by decide) (hg _ wf_X10_10) (fun _ h9 => h9) rfl dX10_carryOut_155 ?_
    refine lv_iload_n hx hb dX10_carryOut_158 rfl (lv_at hl 1 rfl) ?_
    refine q_goP (q_runV (As := [.int x]) (rest := []) hx hb hml hown hg (c_X5_goUp l D cs hL1 x) v_X5_goUp wl_X10_99 rfl rfl ⟨Nat.le_of_ble_eq_true rfl, Nat.le_of_ble_eq_true rfl⟩ hI hK 6 hL1.1 rfl hl.1 rfl rfl (Nat.le_of_ble_eq_true rfl) dX10_carryOut_159 ⟨Nat.le_of_ble_eq_true rfl, Nat.le_of_ble_eq_true rfl⟩) hI (fun M H locs hp hI => ?_)
    obtain ⟨hn0, hF⟩ := hp
    generalize heg : s_X5_goUp q x = g2 at hn0 hR ⊢
    have hn1 := hL3.fr hF (fun q h1 h2 hq => by omega)
    have hS := hS.tr hF (fun q hq => Or.inl hq)
    refine lv_goto (tgt := 212) hx hb dX10_carryOut_162 (by decide) ?_
    exact q_iret hx hb hret hlk hN hI (by subst hR; exact ⟨rfl, ⟨hn0, hn1, hS⟩, rfl⟩) dX10_carryOut_212
  · change s_X5_changeWeight q rs x y = R at hR
    refine lv_tableIn (off := 117) (tgt := 165) hx hb dX10_carryOut_48 (by decide) (by decide) (by decide) (by decide) ?_
    refine lv_aload_n hx hb dX10_carryOut_165 rfl (lv_at hl 3 rfl) ?_
    refine q_get hx hb hg in_X10 hown hK hI hL0 rfl 0 (by decide) (hg _ wf_X10_10) (fun _ h9 => h9) rfl dX10_carryOut_166 ?_
    refine lv_iload_n hx hb dX10_carryOut_169 rfl (lv_at hl 1 rfl) ?_
    refine lv_iload hx hb dX10_carryOut_170 (lv_at hl 0 rfl) ?_
    refine lv_aload_n hx hb dX10_carryOut_172 rfl (lv_at hl 3 rfl) ?_
    refine q_get hx hb hg in_X10 hown hK hI hL0 rfl 6 (by decide) (hg _ wf_X10_46) (fun _ h9 => h9) rfl dX10_carryOut_173 ?_
    refine q_goP (q_runV (As := [.int x, .int y, .ref (a + 166)]) (rest := []) hx hb hml hown hg (c_X5_changeWeight l D cs hL1 hL3 (by omega) x y) v_X5_changeWeight wl_X10_102 rfl rfl ⟨Nat.le_of_ble_eq_true rfl, Nat.le_of_ble_eq_true rfl⟩ hI hK 6 hL1.1 rfl hl.1 rfl rfl (Nat.le_of_ble_eq_true rfl) dX10_carryOut_176 ⟨Nat.le_of_ble_eq_true rfl, Nat.le_of_ble_eq_true rfl⟩) hI (fun M H locs hp hI => ?_)
    obtain ⟨hn0, hn1, hF⟩ := hp
    rw [hR] at hn0 hn1 ⊢
    have hS := hS.tr hF (fun q hq => hq)
    refine lv_goto (tgt := 212) hx hb dX10_carryOut_179 (by decide) ?_
    exact q_iret hx hb hret hlk hN hI (by exact ⟨rfl, ⟨hn0, hn1, hS⟩, rfl⟩) dX10_carryOut_212
  · change s_X5_setSledge q rs x = R at hR
    refine lv_tableIn (off := 134) (tgt := 182) hx hb dX10_carryOut_48 (by decide) (by decide) (by decide) (by decide) ?_
    refine lv_aload_n hx hb dX10_carryOut_182 rfl (lv_at hl 3 rfl) ?_
    refine q_get hx hb hg in_X10 hown hK hI hL0 rfl 0 (by decide) (hg _ wf_X10_10) (fun _ h9 => h9) rfl dX10_carryOut_183 ?_
    refine lv_iload_n hx hb dX10_carryOut_186 rfl (lv_at hl 1 rfl) ?_
    refine lv_aload_n hx hb dX10_carryOut_187 rfl (lv_at hl 3 rfl) ?_
    refine q_get hx hb hg in_X10 hown hK hI hL0 rfl 6 (by decide) (hg _ wf_X10_46) (fun _ h9 => h9) rfl dX10_carryOut_188 ?_
    refine q_goP (q_runV (As := [.int x, .ref (a + 166)]) (rest := []) hx hb hml hown hg (c_X5_setSledge l D cs hL1 hL3 (by omega) x) v_X5_setSledge wl_X10_105 rfl rfl ⟨Nat.le_of_ble_eq_true rfl, Nat.le_of_ble_eq_true rfl⟩ hI hK 6 hL1.1 rfl hl.1 rfl rfl (Nat.le_of_ble_eq_true rfl) dX10_carryOut_191 ⟨Nat.le_of_ble_eq_true rfl, Nat.le_of_ble_eq_true rfl⟩) hI (fun M H locs hp hI => ?_)
    obtain ⟨hn0, hn1, hF⟩ := hp
    rw [hR] at hn0 hn1 ⊢
    have hS := hS.tr hF (fun q hq => hq)
    refine lv_goto (tgt := 212) hx hb dX10_carryOut_194 (by decide) ?_
    exact q_iret hx hb hret hlk hN hI (by exact ⟨rfl, ⟨hn0, hn1, hS⟩, rfl⟩) dX10_carryOut_212
  · change s_X5_pullSledges q rs = R at hR
    refine lv_tableIn (off := 149) (tgt := 197) hx hb dX10_carryOut_48 (by decide) (by decide) (by decide) (by decide) ?_
    refine lv_aload_n hx hb dX10_carryOut_197 rfl (lv_at hl 3 rfl) ?_
    refine q_get hx hb hg in_X10 hown hK hI hL0 rfl 0 (by decide) (hg _ wf_X10_10) (fun _ h9 => h9) rfl dX10_carryOut_198 ?_
    refine lv_aload_n hx hb dX10_carryOut_201 rfl (lv_at hl 3 rfl) ?_
    refine q_get hx hb hg in_X10 hown hK hI hL0 rfl 6 (by decide) (hg _ wf_X10_46) (fun _ h9 => h9) rfl dX10_carryOut_202 ?_
    refine q_goP (q_runV (As := [.ref (a + 166)]) (rest := []) hx hb hml hown hg (c_X5_pullSledges l D cs hL1 hL3 (by omega)) v_X5_pullSledges wl_X10_108 rfl rfl ⟨Nat.le_of_ble_eq_true rfl, Nat.le_of_ble_eq_true rfl⟩ hI hK 6 hL1.1 rfl hl.1 rfl rfl (Nat.le_of_ble_eq_true rfl) dX10_carryOut_205 ⟨Nat.le_of_ble_eq_true rfl, Nat.le_of_ble_eq_true rfl⟩) hI (fun M H locs hp hI => ?_)
    obtain ⟨hn0, hn1, hF⟩ := hp
    rw [hR] at hn0 hn1 ⊢
    have hS := hS.tr hF (fun q hq => hq)
    refine lv_goto (tgt := 212) hx hb dX10_carryOut_208 (by decide) ?_
    exact q_iret hx hb hret hlk hN hI (by exact ⟨rfl, ⟨hn0, hn1, hS⟩, rfl⟩) dX10_carryOut_212
