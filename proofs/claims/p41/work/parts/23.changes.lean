def s_X10_settled (f : (Int32 × Int32)) (h : qHV) (p1 : Int32) : Int32 × qHV := (if p1 < 0 then (p1, h) else (p1, (s_X2_keepDraft h)))
set_option maxHeartbeats 4000000 in
set_option maxRecDepth 20000 in
theorem c_X10_settled (l : Launch) (D : va_G) (cs : qC) {M0 : qM} {N a : Nat} {f : (Int32 × Int32)} {h : qHV} (hL0 : qLX cs M0 a f) (hL1 : qLH cs M0 (a + 40) h) (p1 : Int32) :
    qMet l D cs yX10_settled (qws yX10_settled cX10_settled 2 (some .int)) ({ frames := 2, cells := 0, slots := 0, locals := 60 } : Room) M0 N [.ref a, .int p1] (qMod N (some (.int ((s_X10_settled f h p1).1))) (fun M' => qLH cs M' (a + 40) ((s_X10_settled f h p1).2) ∧ qFr (qIn (a + 40) 119) M0 M')) 0 0 := by
  obtain ⟨R, hR⟩ : ∃ R, s_X10_settled f h p1 = R := ⟨_, rfl⟩
  rw [hR]
  rw [s_X10_settled] at hR
  refine q_head (by decide +kernel) ?_ (Nat.le_of_ble_eq_true rfl)
  intro p e s m below meth c ls hx hb hret hlk hml hown hnm hg hK hN hI hl
  have hl : lv_has ls 2 [(0, .ref a), (1, .int p1)] := hl
  have hS : qFr (qIn (a + 40) 119) M0 M0 := qFr.rf
  refine lv_iload_n hx hb dX10_settled_0 rfl (lv_at hl 1 rfl) ?_
  refine lv_if_lt (tgt := 11) hx hb dX10_settled_1 (by decide) (fun c1 => ?_) (fun c1 => ?_)
  · rw [if_pos c1] at hR
    refine lv_iload_n hx hb dX10_settled_11 rfl (lv_at hl 1 rfl) ?_
    exact q_iret hx hb hret hlk hN hI (by subst hR; exact ⟨rfl, ⟨hL1, hS⟩, rfl⟩) dX10_settled_12
  · rw [if_neg c1] at hR
    refine lv_aload_n hx hb dX10_settled_4 rfl (lv_at hl 0 rfl) ?_
    refine q_get hx hb hg in_X10 hown hK hI hL0 rfl 3 (by decide) (hg _ wf_X10_25) (fun _ h9 => h9) rfl dX10_settled_5 ?_
    refine q_goN (q_runV (As := []) (rest := []) hx hb hml hown hg (c_X2_keepDraft l D cs hL1) v_X2_keepDraft wl_X10_136 rfl rfl ⟨Nat.le_of_ble_eq_true rfl, Nat.le_of_ble_eq_true rfl⟩ hI hK 3 hL1.1 rfl hl.1 rfl rfl (Nat.le_of_ble_eq_true rfl) dX10_settled_8 ⟨Nat.le_of_ble_eq_true rfl, Nat.le_of_ble_eq_true rfl⟩) hI (fun M H locs hp hI => ?_)
    obtain ⟨hn0, hF⟩ := hp
    generalize heg2 : s_X2_keepDraft h = g2 at hn0 hR
    have hn := hn0
    have hL1 := hn
    have hL0 := hL0.fr hF (fun q h1 h2 hq => by omega)
    have hS := hS.tr hF (fun q hq => by omega)
    refine lv_iload_n hx hb dX10_settled_11 rfl (lv_at hl 1 rfl) ?_
    exact q_iret hx hb hret hlk hN hI (by subst hR; exact ⟨rfl, ⟨hL1, hS⟩, rfl⟩) dX10_settled_12
def s_X10_append (f : (Int32 × Int32)) (i : qIV) (p1 : Int32) : Int32 × qIV := ((s_X3_add i p1).1, (s_X3_add i p1).2)
set_option maxHeartbeats 4000000 in
set_option maxRecDepth 20000 in
theorem c_X10_append (l : Launch) (D : va_G) (cs : qC) {M0 : qM} {N a : Nat} {f : (Int32 × Int32)} {i : qIV} (hL0 : qLX cs M0 a f) (hL1 : qLI cs M0 (a + 159) i) (p1 : Int32) :
    qMet l D cs yX10_append (qws yX10_append cX10_append 2 (some .int)) ({ frames := 2, cells := 0, slots := 0, locals := 43 } : Room) M0 N [.ref a, .int p1] (qMod N (some (.int ((s_X10_append f i p1).1))) (fun M' => qLI cs M' (a + 159) ((s_X10_append f i p1).2) ∧ qFr (qIn (a + 159) 5) M0 M')) 0 0 := by
  obtain ⟨R, hR⟩ : ∃ R, s_X10_append f i p1 = R := ⟨_, rfl⟩
  rw [hR]
  rw [s_X10_append] at hR
  refine q_head (by decide +kernel) ?_ (Nat.le_of_ble_eq_true rfl)
  intro p e s m below meth c ls hx hb hret hlk hml hown hnm hg hK hN hI hl
  have hl : lv_has ls 2 [(0, .ref a), (1, .int p1)] := hl
  have hS : qFr (qIn (a + 159) 5) M0 M0 := qFr.rf
  refine lv_aload_n hx hb dX10_append_0 rfl (lv_at hl 0 rfl) ?_
  refine q_get hx hb hg in_X10 hown hK hI hL0 rfl 4 (by decide) (hg _ wf_X10_32) (fun _ h9 => h9) rfl dX10_append_1 ?_
  refine lv_iload_n hx hb dX10_append_4 rfl (lv_at hl 1 rfl) ?_
  refine q_goP (q_runV (As := [.int p1]) (rest := []) hx hb hml hown hg (c_X3_add l D cs hL1 p1) v_X3_add wl_X10_73 rfl rfl ⟨Nat.le_of_ble_eq_true rfl, Nat.le_of_ble_eq_true rfl⟩ hI hK 4 hL1.1 rfl hl.1 rfl rfl (Nat.le_of_ble_eq_true rfl) dX10_append_5 ⟨Nat.le_of_ble_eq_true rfl, Nat.le_of_ble_eq_true rfl⟩) hI (fun M H locs hp hI => ?_)
  obtain ⟨hn0, hF⟩ := hp
  generalize heg1 : s_X3_add i p1 = g1 at hn0 hR ⊢
  have hn := hn0
  have hL1 := hn
  have hL0 := hL0.fr hF (fun q h1 h2 hq => by omega)
  have hS := hS.tr hF (fun q hq => by omega)
  exact q_iret hx hb hret hlk hN hI (by subst hR; exact ⟨rfl, ⟨hL1, hS⟩, rfl⟩) dX10_append_8
def s_X10_block (f : (Int32 × Int32)) (q : qQV) (h : qHV) (rs : qRV) (p1 : Int32) : Int32 × qQV × qHV × qRV := ((s_X10_settled f (s_X2_draft h q) (s_X5_addBlock q rs p1).1).1, (s_X5_addBlock q rs p1).2.1, (s_X10_settled f (s_X2_draft h q) (s_X5_addBlock q rs p1).1).2, (s_X5_addBlock q rs p1).2.2)
set_option maxHeartbeats 4000000 in
set_option maxRecDepth 20000 in
theorem c_X10_block (l : Launch) (D : va_G) (cs : qC) {M0 : qM} {N a : Nat} {f : (Int32 × Int32)} {q : qQV} {h : qHV} {rs : qRV} (hL0 : qLX cs M0 a f) (hL1 : qLQ cs M0 (a + 1) q) (hL2 : qLH cs M0 (a + 40) h) (hL3 : qLR cs M0 (a + 166) rs) (p1 : Int32) :
    qMet l D cs yX10_block (qws yX10_block cX10_block 2 (some .int)) ({ frames := 5, cells := 0, slots := 0, locals := 108 } : Room) M0 N [.ref a, .int p1] (qMod N (some (.int ((s_X10_block f q h rs p1).1))) (fun M' => qLQ cs M' (a + 1) ((s_X10_block f q h rs p1).2.1) ∧ qLH cs M' (a + 40) ((s_X10_block f q h rs p1).2.2.1) ∧ qLR cs M' (a + 166) ((s_X10_block f q h rs p1).2.2.2) ∧ qFr (fun q => qIn (a + 1) 13 q ∨ qIn (a + 40) 119 q ∨ qIn (a + 166) 1 q) M0 M')) 0 0 := by
  obtain ⟨R, hR⟩ : ∃ R, s_X10_block f q h rs p1 = R := ⟨_, rfl⟩
  rw [hR]
  rw [s_X10_block] at hR
  refine q_head (by decide +kernel) ?_ (Nat.le_of_ble_eq_true rfl)
  intro p e s m below meth c ls hx hb hret hlk hml hown hnm hg hK hN hI hl
  have hl : lv_has ls 2 [(0, .ref a), (1, .int p1)] := hl
  have hS : qFr (fun q => qIn (a + 1) 13 q ∨ qIn (a + 40) 119 q ∨ qIn (a + 166) 1 q) M0 M0 := qFr.rf
  refine lv_aload_n hx hb dX10_block_0 rfl (lv_at hl 0 rfl) ?_
  refine q_get hx hb hg in_X10 hown hK hI hL0 rfl 3 (by decide) (hg _ wf_X10_25) (fun _ h9 => h9) rfl dX10_block_1 ?_
  refine lv_aload_n hx hb dX10_block_4 rfl (lv_at hl 0 rfl) ?_
  refine q_get hx hb hg in_X10 hown hK hI hL0 rfl 0 (by decide) (hg _ wf_X10_10) (fun _ h9 => h9) rfl dX10_block_5 ?_
  refine q_goN (q_runV (As := [.ref (a + 1)]) (rest := []) hx hb hml hown hg (c_X2_draft l D cs hL2 hL1 (by omega)) v_X2_draft wl_X10_77 rfl rfl ⟨Nat.le_of_ble_eq_true rfl, Nat.le_of_ble_eq_true rfl⟩ hI hK 3 hL2.1 rfl hl.1 rfl rfl (Nat.le_of_ble_eq_true rfl) dX10_block_8 ⟨Nat.le_of_ble_eq_true rfl, Nat.le_of_ble_eq_true rfl⟩) hI (fun M H locs hp hI => ?_)
  obtain ⟨hn0, hF⟩ := hp
  generalize heg1 : s_X2_draft h q = g1 at hn0 hR
  have hn := hn0
  have hL2 := hn
  have hL0 := hL0.fr hF (fun q h1 h2 hq => by omega)
  have hL1 := hL1.fr hF (fun q h1 h2 hq => by omega)
  have hL3 := hL3.fr hF (fun q h1 h2 hq => by omega)
  have hS := hS.tr hF (fun q hq => by omega)
  refine lv_aload_n hx hb dX10_block_11 rfl (lv_at hl 0 rfl) ?_
  refine lv_aload_n hx hb dX10_block_12 rfl (lv_at hl 0 rfl) ?_
  refine q_get hx hb hg in_X10 hown hK hI hL0 rfl 0 (by decide) (hg _ wf_X10_10) (fun _ h9 => h9) rfl dX10_block_13 ?_
  refine lv_iload_n hx hb dX10_block_16 rfl (lv_at hl 1 rfl) ?_
  refine lv_aload_n hx hb dX10_block_17 rfl (lv_at hl 0 rfl) ?_
  refine q_get hx hb hg in_X10 hown hK hI hL0 rfl 6 (by decide) (hg _ wf_X10_46) (fun _ h9 => h9) rfl dX10_block_18 ?_
  refine q_goP (q_runV (As := [.int p1, .ref (a + 166)]) (rest := [.ref a]) hx hb hml hown hg (c_X5_addBlock l D cs hL1 hL3 (by omega) p1) v_X5_addBlock wl_X10_81 rfl rfl ⟨Nat.le_of_ble_eq_true rfl, Nat.le_of_ble_eq_true rfl⟩ hI hK 6 hL1.1 rfl hl.1 rfl rfl (Nat.le_of_ble_eq_true rfl) dX10_block_21 ⟨Nat.le_of_ble_eq_true rfl, Nat.le_of_ble_eq_true rfl⟩) hI (fun M H locs hp hI => ?_)
  obtain ⟨hn0, hn1, hF⟩ := hp
  generalize heg2 : s_X5_addBlock q rs p1 = g2 at hn0 hn1 hR ⊢
  have hn := hn0
  have hL1 := hn
  have hn := hn1
  have hL3 := hn
  have hL0 := hL0.fr hF (fun q h1 h2 hq => by omega)
  have hL2 := hL2.fr hF (fun q h1 h2 hq => by omega)
  have hS := hS.tr hF (fun q hq => by omega)
  refine q_goP (q_runV (As := [.int g2.1]) (rest := []) hx hb hml hown hg (c_X10_settled l D cs hL0 hL2 g2.1) v_X10_settled wl_X10_85 rfl rfl ⟨Nat.le_of_ble_eq_true rfl, Nat.le_of_ble_eq_true rfl⟩ hI hK 10 hL0 rfl hl.1 rfl rfl (Nat.le_of_ble_eq_true rfl) dX10_block_24 ⟨Nat.le_of_ble_eq_true rfl, Nat.le_of_ble_eq_true rfl⟩) hI (fun M H locs hp hI => ?_)
  obtain ⟨hn1, hF⟩ := hp
  generalize heg3 : s_X10_settled f g1 g2.1 = g3 at hn1 hR ⊢
  have hn := hn1
  have hL2 := hn
  have hL0 := hL0.fr hF (fun q h1 h2 hq => by omega)
  have hL1 := hL1.fr hF (fun q h1 h2 hq => by omega)
  have hL3 := hL3.fr hF (fun q h1 h2 hq => by omega)
  have hS := hS.tr hF (fun q hq => by omega)
  exact q_iret hx hb hret hlk hN hI (by subst hR; exact ⟨rfl, ⟨hL1, hL2, hL3, hS⟩, rfl⟩) dX10_block_27
def s_X10_hang (f : (Int32 × Int32)) (q : qQV) (h : qHV) (rs : qRV) (p1 : Int32) (p2 : Int32) : Int32 × qQV × qHV × qRV := ((s_X10_settled f (s_X2_draft h q) (s_X5_hangOn q rs p1 p2).1).1, (s_X5_hangOn q rs p1 p2).2.1, (s_X10_settled f (s_X2_draft h q) (s_X5_hangOn q rs p1 p2).1).2, (s_X5_hangOn q rs p1 p2).2.2)
set_option maxHeartbeats 4000000 in
set_option maxRecDepth 20000 in
theorem c_X10_hang (l : Launch) (D : va_G) (cs : qC) {M0 : qM} {N a : Nat} {f : (Int32 × Int32)} {q : qQV} {h : qHV} {rs : qRV} (hL0 : qLX cs M0 a f) (hL1 : qLQ cs M0 (a + 1) q) (hL2 : qLH cs M0 (a + 40) h) (hL3 : qLR cs M0 (a + 166) rs) (p1 : Int32) (p2 : Int32) :
    qMet l D cs yX10_hang (qws yX10_hang cX10_hang 3 (some .int)) ({ frames := 6, cells := 0, slots := 0, locals := 143 } : Room) M0 N [.ref a, .int p1, .int p2] (qMod N (some (.int ((s_X10_hang f q h rs p1 p2).1))) (fun M' => qLQ cs M' (a + 1) ((s_X10_hang f q h rs p1 p2).2.1) ∧ qLH cs M' (a + 40) ((s_X10_hang f q h rs p1 p2).2.2.1) ∧ qLR cs M' (a + 166) ((s_X10_hang f q h rs p1 p2).2.2.2) ∧ qFr (fun q => qIn (a + 1) 13 q ∨ qIn (a + 40) 119 q ∨ qIn (a + 166) 1 q) M0 M')) 0 0 := by
  obtain ⟨R, hR⟩ : ∃ R, s_X10_hang f q h rs p1 p2 = R := ⟨_, rfl⟩
  rw [hR]
  rw [s_X10_hang] at hR
  refine q_head (by decide +kernel) ?_ (Nat.le_of_ble_eq_true rfl)
  intro p e s m below meth c ls hx hb hret hlk hml hown hnm hg hK hN hI hl
  have hl : lv_has ls 3 [(0, .ref a), (1, .int p1), (2, .int p2)] := hl
  have hS : qFr (fun q => qIn (a + 1) 13 q ∨ qIn (a + 40) 119 q ∨ qIn (a + 166) 1 q) M0 M0 := qFr.rf
  refine lv_aload_n hx hb dX10_hang_0 rfl (lv_at hl 0 rfl) ?_
  refine q_get hx hb hg in_X10 hown hK hI hL0 rfl 3 (by decide) (hg _ wf_X10_25) (fun _ h9 => h9) rfl dX10_hang_1 ?_
  refine lv_aload_n hx hb dX10_hang_4 rfl (lv_at hl 0 rfl) ?_
  refine q_get hx hb hg in_X10 hown hK hI hL0 rfl 0 (by decide) (hg _ wf_X10_10) (fun _ h9 => h9) rfl dX10_hang_5 ?_
  refine q_goN (q_runV (As := [.ref (a + 1)]) (rest := []) hx hb hml hown hg (c_X2_draft l D cs hL2 hL1 (by omega)) v_X2_draft wl_X10_77 rfl rfl ⟨Nat.le_of_ble_eq_true rfl, Nat.le_of_ble_eq_true rfl⟩ hI hK 3 hL2.1 rfl hl.1 rfl rfl (Nat.le_of_ble_eq_true rfl) dX10_hang_8 ⟨Nat.le_of_ble_eq_true rfl, Nat.le_of_ble_eq_true rfl⟩) hI (fun M H locs hp hI => ?_)
  obtain ⟨hn0, hF⟩ := hp
  generalize heg1 : s_X2_draft h q = g1 at hn0 hR
  have hn := hn0
  have hL2 := hn
  have hL0 := hL0.fr hF (fun q h1 h2 hq => by omega)
  have hL1 := hL1.fr hF (fun q h1 h2 hq => by omega)
  have hL3 := hL3.fr hF (fun q h1 h2 hq => by omega)
  have hS := hS.tr hF (fun q hq => by omega)
  refine lv_aload_n hx hb dX10_hang_11 rfl (lv_at hl 0 rfl) ?_
  refine lv_aload_n hx hb dX10_hang_12 rfl (lv_at hl 0 rfl) ?_
  refine q_get hx hb hg in_X10 hown hK hI hL0 rfl 0 (by decide) (hg _ wf_X10_10) (fun _ h9 => h9) rfl dX10_hang_13 ?_
  refine lv_iload_n hx hb dX10_hang_16 rfl (lv_at hl 1 rfl) ?_
  refine lv_iload_n hx hb dX10_hang_17 rfl (lv_at hl 2 rfl) ?_
  refine lv_aload_n hx hb dX10_hang_18 rfl (lv_at hl 0 rfl) ?_
  refine q_get hx hb hg in_X10 hown hK hI hL0 rfl 6 (by decide) (hg _ wf_X10_46) (fun _ h9 => h9) rfl dX10_hang_19 ?_
  refine q_goP (q_runV (As := [.int p1, .int p2, .ref (a + 166)]) (rest := [.ref a]) hx hb hml hown hg (c_X5_hangOn l D cs hL1 hL3 (by omega) p1 p2) v_X5_hangOn wl_X10_89 rfl rfl ⟨Nat.le_of_ble_eq_true rfl, Nat.le_of_ble_eq_true rfl⟩ hI hK 6 hL1.1 rfl hl.1 rfl rfl (Nat.le_of_ble_eq_true rfl) dX10_hang_22 ⟨Nat.le_of_ble_eq_true rfl, Nat.le_of_ble_eq_true rfl⟩) hI (fun M H locs hp hI => ?_)
  obtain ⟨hn0, hn1, hF⟩ := hp
  generalize heg2 : s_X5_hangOn q rs p1 p2 = g2 at hn0 hn1 hR ⊢
  have hn := hn0
  have hL1 := hn
  have hn := hn1
  have hL3 := hn
  have hL0 := hL0.fr hF (fun q h1 h2 hq => by omega)
  have hL2 := hL2.fr hF (fun q h1 h2 hq => by omega)
  have hS := hS.tr hF (fun q hq => by omega)
  refine q_goP (q_runV (As := [.int g2.1]) (rest := []) hx hb hml hown hg (c_X10_settled l D cs hL0 hL2 g2.1) v_X10_settled wl_X10_85 rfl rfl ⟨Nat.le_of_ble_eq_true rfl, Nat.le_of_ble_eq_true rfl⟩ hI hK 10 hL0 rfl hl.1 rfl rfl (Nat.le_of_ble_eq_true rfl) dX10_hang_25 ⟨Nat.le_of_ble_eq_true rfl, Nat.le_of_ble_eq_true rfl⟩) hI (fun M H locs hp hI => ?_)
  obtain ⟨hn1, hF⟩ := hp
  generalize heg3 : s_X10_settled f g1 g2.1 = g3 at hn1 hR ⊢
  have hn := hn1
  have hL2 := hn
  have hL0 := hL0.fr hF (fun q h1 h2 hq => by omega)
  have hL1 := hL1.fr hF (fun q h1 h2 hq => by omega)
  have hL3 := hL3.fr hF (fun q h1 h2 hq => by omega)
  have hS := hS.tr hF (fun q hq => by omega)
  exact q_iret hx hb hret hlk hN hI (by subst hR; exact ⟨rfl, ⟨hL1, hL2, hL3, hS⟩, rfl⟩) dX10_hang_28
def s_X10_cut (f : (Int32 × Int32)) (q : qQV) (h : qHV) (rs : qRV) (p1 : Int32) : Int32 × qQV × qHV × qRV := ((s_X10_settled f (s_X2_draft h q) (s_X5_cutOff q rs p1).1).1, (s_X5_cutOff q rs p1).2.1, (s_X10_settled f (s_X2_draft h q) (s_X5_cutOff q rs p1).1).2, (s_X5_cutOff q rs p1).2.2)
set_option maxHeartbeats 4000000 in
set_option maxRecDepth 20000 in
theorem c_X10_cut (l : Launch) (D : va_G) (cs : qC) {M0 : qM} {N a : Nat} {f : (Int32 × Int32)} {q : qQV} {h : qHV} {rs : qRV} (hL0 : qLX cs M0 a f) (hL1 : qLQ cs M0 (a + 1) q) (hL2 : qLH cs M0 (a + 40) h) (hL3 : qLR cs M0 (a + 166) rs) (p1 : Int32) :
    qMet l D cs yX10_cut (qws yX10_cut cX10_cut 2 (some .int)) ({ frames := 6, cells := 0, slots := 0, locals := 143 } : Room) M0 N [.ref a, .int p1] (qMod N (some (.int ((s_X10_cut f q h rs p1).1))) (fun M' => qLQ cs M' (a + 1) ((s_X10_cut f q h rs p1).2.1) ∧ qLH cs M' (a + 40) ((s_X10_cut f q h rs p1).2.2.1) ∧ qLR cs M' (a + 166) ((s_X10_cut f q h rs p1).2.2.2) ∧ qFr (fun q => qIn (a + 1) 13 q ∨ qIn (a + 40) 119 q ∨ qIn (a + 166) 1 q) M0 M')) 0 0 := by
  obtain ⟨R, hR⟩ : ∃ R, s_X10_cut f q h rs p1 = R := ⟨_, rfl⟩
  rw [hR]
  rw [s_X10_cut] at hR
  refine q_head (by decide +kernel) ?_ (Nat.le_of_ble_eq_true rfl)
  intro p e s m below meth c ls hx hb hret hlk hml hown hnm hg hK hN hI hl
  have hl : lv_has ls 2 [(0, .ref a), (1, .int p1)] := hl
  have hS : qFr (fun q => qIn (a + 1) 13 q ∨ qIn (a + 40) 119 q ∨ qIn (a + 166) 1 q) M0 M0 := qFr.rf
  refine lv_aload_n hx hb dX10_cut_0 rfl (lv_at hl 0 rfl) ?_
  refine q_get hx hb hg in_X10 hown hK hI hL0 rfl 3 (by decide) (hg _ wf_X10_25) (fun _ h9 => h9) rfl dX10_cut_1 ?_
  refine lv_aload_n hx hb dX10_cut_4 rfl (lv_at hl 0 rfl) ?_
  refine q_get hx hb hg in_X10 hown hK hI hL0 rfl 0 (by decide) (hg _ wf_X10_10) (fun _ h9 => h9) rfl dX10_cut_5 ?_
  refine q_goN (q_runV (As := [.ref (a + 1)]) (rest := []) hx hb hml hown hg (c_X2_draft l D cs hL2 hL1 (by omega)) v_X2_draft wl_X10_77 rfl rfl ⟨Nat.le_of_ble_eq_true rfl, Nat.le_of_ble_eq_true rfl⟩ hI hK 3 hL2.1 rfl hl.1 rfl rfl (Nat.le_of_ble_eq_true rfl) dX10_cut_8 ⟨Nat.le_of_ble_eq_true rfl, Nat.le_of_ble_eq_true rfl⟩) hI (fun M H locs hp hI => ?_)
  obtain ⟨hn0, hF⟩ := hp
  generalize heg1 : s_X2_draft h q = g1 at hn0 hR
  have hn := hn0
  have hL2 := hn
  have hL0 := hL0.fr hF (fun q h1 h2 hq => by omega)
  have hL1 := hL1.fr hF (fun q h1 h2 hq => by omega)
  have hL3 := hL3.fr hF (fun q h1 h2 hq => by omega)
  have hS := hS.tr hF (fun q hq => by omega)
  refine lv_aload_n hx hb dX10_cut_11 rfl (lv_at hl 0 rfl) ?_
  refine lv_aload_n hx hb dX10_cut_12 rfl (lv_at hl 0 rfl) ?_
  refine q_get hx hb hg in_X10 hown hK hI hL0 rfl 0 (by decide) (hg _ wf_X10_10) (fun _ h9 => h9) rfl dX10_cut_13 ?_
  refine lv_iload_n hx hb dX10_cut_16 rfl (lv_at hl 1 rfl) ?_
  refine lv_aload_n hx hb dX10_cut_17 rfl (lv_at hl 0 rfl) ?_
  refine q_get hx hb hg in_X10 hown hK hI hL0 rfl 6 (by decide) (hg _ wf_X10_46) (fun _ h9 => h9) rfl dX10_cut_18 ?_
  refine q_goP (q_runV (As := [.int p1, .ref (a + 166)]) (rest := [.ref a]) hx hb hml hown hg (c_X5_cutOff l D cs hL1 hL3 (by omega) p1) v_X5_cutOff wl_X10_93 rfl rfl ⟨Nat.le_of_ble_eq_true rfl, Nat.le_of_ble_eq_true rfl⟩ hI hK 6 hL1.1 rfl hl.1 rfl rfl (Nat.le_of_ble_eq_true rfl) dX10_cut_21 ⟨Nat.le_of_ble_eq_true rfl, Nat.le_of_ble_eq_true rfl⟩) hI (fun M H locs hp hI => ?_)
  obtain ⟨hn0, hn1, hF⟩ := hp
  generalize heg2 : s_X5_cutOff q rs p1 = g2 at hn0 hn1 hR ⊢
  have hn := hn0
  have hL1 := hn
  have hn := hn1
  have hL3 := hn
  have hL0 := hL0.fr hF (fun q h1 h2 hq => by omega)
  have hL2 := hL2.fr hF (fun q h1 h2 hq => by omega)
  have hS := hS.tr hF (fun q hq => by omega)
  refine q_goP (q_runV (As := [.int g2.1]) (rest := []) hx hb hml hown hg (c_X10_settled l D cs hL0 hL2 g2.1) v_X10_settled wl_X10_85 rfl rfl ⟨Nat.le_of_ble_eq_true rfl, Nat.le_of_ble_eq_true rfl⟩ hI hK 10 hL0 rfl hl.1 rfl rfl (Nat.le_of_ble_eq_true rfl) dX10_cut_24 ⟨Nat.le_of_ble_eq_true rfl, Nat.le_of_ble_eq_true rfl⟩) hI (fun M H locs hp hI => ?_)
  obtain ⟨hn1, hF⟩ := hp
  generalize heg3 : s_X10_settled f g1 g2.1 = g3 at hn1 hR ⊢
  have hn := hn1
  have hL2 := hn
  have hL0 := hL0.fr hF (fun q h1 h2 hq => by omega)
  have hL1 := hL1.fr hF (fun q h1 h2 hq => by omega)
  have hL3 := hL3.fr hF (fun q h1 h2 hq => by omega)
  have hS := hS.tr hF (fun q hq => by omega)
  exact q_iret hx hb hret hlk hN hI (by subst hR; exact ⟨rfl, ⟨hL1, hL2, hL3, hS⟩, rfl⟩) dX10_cut_27
def s_X10_weigh (f : (Int32 × Int32)) (q : qQV) (h : qHV) (rs : qRV) (p1 : Int32) (p2 : Int32) : Int32 × qQV × qHV × qRV := ((s_X10_settled f (s_X2_draft h q) (s_X5_changeWeight q rs p1 p2).1).1, (s_X5_changeWeight q rs p1 p2).2.1, (s_X10_settled f (s_X2_draft h q) (s_X5_changeWeight q rs p1 p2).1).2, (s_X5_changeWeight q rs p1 p2).2.2)
set_option maxHeartbeats 4000000 in
set_option maxRecDepth 20000 in
theorem c_X10_weigh (l : Launch) (D : va_G) (cs : qC) {M0 : qM} {N a : Nat} {f : (Int32 × Int32)} {q : qQV} {h : qHV} {rs : qRV} (hL0 : qLX cs M0 a f) (hL1 : qLQ cs M0 (a + 1) q) (hL2 : qLH cs M0 (a + 40) h) (hL3 : qLR cs M0 (a + 166) rs) (p1 : Int32) (p2 : Int32) :
    qMet l D cs yX10_weigh (qws yX10_weigh cX10_weigh 3 (some .int)) ({ frames := 5, cells := 0, slots := 0, locals := 108 } : Room) M0 N [.ref a, .int p1, .int p2] (qMod N (some (.int ((s_X10_weigh f q h rs p1 p2).1))) (fun M' => qLQ cs M' (a + 1) ((s_X10_weigh f q h rs p1 p2).2.1) ∧ qLH cs M' (a + 40) ((s_X10_weigh f q h rs p1 p2).2.2.1) ∧ qLR cs M' (a + 166) ((s_X10_weigh f q h rs p1 p2).2.2.2) ∧ qFr (fun q => qIn (a + 1) 13 q ∨ qIn (a + 40) 119 q ∨ qIn (a + 166) 1 q) M0 M')) 0 0 := by
  obtain ⟨R, hR⟩ : ∃ R, s_X10_weigh f q h rs p1 p2 = R := ⟨_, rfl⟩
  rw [hR]
  rw [s_X10_weigh] at hR
  refine q_head (by decide +kernel) ?_ (Nat.le_of_ble_eq_true rfl)
  intro p e s m below meth c ls hx hb hret hlk hml hown hnm hg hK hN hI hl
  have hl : lv_has ls 3 [(0, .ref a), (1, .int p1), (2, .int p2)] := hl
  have hS : qFr (fun q => qIn (a + 1) 13 q ∨ qIn (a + 40) 119 q ∨ qIn (a + 166) 1 q) M0 M0 := qFr.rf
  refine lv_aload_n hx hb dX10_weigh_0 rfl (lv_at hl 0 rfl) ?_
  refine q_get hx hb hg in_X10 hown hK hI hL0 rfl 3 (by decide) (hg _ wf_X10_25) (fun _ h9 => h9) rfl dX10_weigh_1 ?_
  refine lv_aload_n hx hb dX10_weigh_4 rfl (lv_at hl 0 rfl) ?_
  refine q_get hx hb hg in_X10 hown hK hI hL0 rfl 0 (by decide) (hg _ wf_X10_10) (fun _ h9 => h9) rfl dX10_weigh_5 ?_
  refine q_goN (q_runV (As := [.ref (a + 1)]) (rest := []) hx hb hml hown hg (c_X2_draft l D cs hL2 hL1 (by omega)) v_X2_draft wl_X10_77 rfl rfl ⟨Nat.le_of_ble_eq_true rfl, Nat.le_of_ble_eq_true rfl⟩ hI hK 3 hL2.1 rfl hl.1 rfl rfl (Nat.le_of_ble_eq_true rfl) dX10_weigh_8 ⟨Nat.le_of_ble_eq_true rfl, Nat.le_of_ble_eq_true rfl⟩) hI (fun M H locs hp hI => ?_)
  obtain ⟨hn0, hF⟩ := hp
  generalize heg1 : s_X2_draft h q = g1 at hn0 hR
  have hn := hn0
  have hL2 := hn
  have hL0 := hL0.fr hF (fun q h1 h2 hq => by omega)
  have hL1 := hL1.fr hF (fun q h1 h2 hq => by omega)
  have hL3 := hL3.fr hF (fun q h1 h2 hq => by omega)
  have hS := hS.tr hF (fun q hq => by omega)
  refine lv_aload_n hx hb dX10_weigh_11 rfl (lv_at hl 0 rfl) ?_
  refine lv_aload_n hx hb dX10_weigh_12 rfl (lv_at hl 0 rfl) ?_
  refine q_get hx hb hg in_X10 hown hK hI hL0 rfl 0 (by decide) (hg _ wf_X10_10) (fun _ h9 => h9) rfl dX10_weigh_13 ?_
  refine lv_iload_n hx hb dX10_weigh_16 rfl (lv_at hl 1 rfl) ?_
  refine lv_iload_n hx hb dX10_weigh_17 rfl (lv_at hl 2 rfl) ?_
  refine lv_aload_n hx hb dX10_weigh_18 rfl (lv_at hl 0 rfl) ?_
  refine q_get hx hb hg in_X10 hown hK hI hL0 rfl 6 (by decide) (hg _ wf_X10_46) (fun _ h9 => h9) rfl dX10_weigh_19 ?_
  refine q_goP (q_runV (As := [.int p1, .int p2, .ref (a + 166)]) (rest := [.ref a]) hx hb hml hown hg (c_X5_changeWeight l D cs hL1 hL3 (by omega) p1 p2) v_X5_changeWeight wl_X10_102 rfl rfl ⟨Nat.le_of_ble_eq_true rfl, Nat.le_of_ble_eq_true rfl⟩ hI hK 6 hL1.1 rfl hl.1 rfl rfl (Nat.le_of_ble_eq_true rfl) dX10_weigh_22 ⟨Nat.le_of_ble_eq_true rfl, Nat.le_of_ble_eq_true rfl⟩) hI (fun M H locs hp hI => ?_)
  obtain ⟨hn0, hn1, hF⟩ := hp
  generalize heg2 : s_X5_changeWeight q rs p1 p2 = g2 at hn0 hn1 hR ⊢
  have hn := hn0
  have hL1 := hn
  have hn := hn1
  have hL3 := hn
  have hL0 := hL0.fr hF (fun q h1 h2 hq => by omega)
  have hL2 := hL2.fr hF (fun q h1 h2 hq => by omega)
  have hS := hS.tr hF (fun q hq => by omega)
  refine q_goP (q_runV (As := [.int g2.1]) (rest := []) hx hb hml hown hg (c_X10_settled l D cs hL0 hL2 g2.1) v_X10_settled wl_X10_85 rfl rfl ⟨Nat.le_of_ble_eq_true rfl, Nat.le_of_ble_eq_true rfl⟩ hI hK 10 hL0 rfl hl.1 rfl rfl (Nat.le_of_ble_eq_true rfl) dX10_weigh_25 ⟨Nat.le_of_ble_eq_true rfl, Nat.le_of_ble_eq_true rfl⟩) hI (fun M H locs hp hI => ?_)
  obtain ⟨hn1, hF⟩ := hp
  generalize heg3 : s_X10_settled f g1 g2.1 = g3 at hn1 hR ⊢
  have hn := hn1
  have hL2 := hn
  have hL0 := hL0.fr hF (fun q h1 h2 hq => by omega)
  have hL1 := hL1.fr hF (fun q h1 h2 hq => by omega)
  have hL3 := hL3.fr hF (fun q h1 h2 hq => by omega)
  have hS := hS.tr hF (fun q hq => by omega)
  exact q_iret hx hb hret hlk hN hI (by subst hR; exact ⟨rfl, ⟨hL1, hL2, hL3, hS⟩, rfl⟩) dX10_weigh_28
def s_X10_sledge (f : (Int32 × Int32)) (q : qQV) (h : qHV) (rs : qRV) (p1 : Int32) : Int32 × qQV × qHV × qRV := ((s_X10_settled f (s_X2_draft h q) (s_X5_setSledge q rs p1).1).1, (s_X5_setSledge q rs p1).2.1, (s_X10_settled f (s_X2_draft h q) (s_X5_setSledge q rs p1).1).2, (s_X5_setSledge q rs p1).2.2)
set_option maxHeartbeats 4000000 in
set_option maxRecDepth 20000 in
theorem c_X10_sledge (l : Launch) (D : va_G) (cs : qC) {M0 : qM} {N a : Nat} {f : (Int32 × Int32)} {q : qQV} {h : qHV} {rs : qRV} (hL0 : qLX cs M0 a f) (hL1 : qLQ cs M0 (a + 1) q) (hL2 : qLH cs M0 (a + 40) h) (hL3 : qLR cs M0 (a + 166) rs) (p1 : Int32) :
    qMet l D cs yX10_sledge (qws yX10_sledge cX10_sledge 2 (some .int)) ({ frames := 5, cells := 0, slots := 0, locals := 108 } : Room) M0 N [.ref a, .int p1] (qMod N (some (.int ((s_X10_sledge f q h rs p1).1))) (fun M' => qLQ cs M' (a + 1) ((s_X10_sledge f q h rs p1).2.1) ∧ qLH cs M' (a + 40) ((s_X10_sledge f q h rs p1).2.2.1) ∧ qLR cs M' (a + 166) ((s_X10_sledge f q h rs p1).2.2.2) ∧ qFr (fun q => qIn (a + 1) 13 q ∨ qIn (a + 40) 119 q ∨ qIn (a + 166) 1 q) M0 M')) 0 0 := by
  obtain ⟨R, hR⟩ : ∃ R, s_X10_sledge f q h rs p1 = R := ⟨_, rfl⟩
  rw [hR]
  rw [s_X10_sledge] at hR
  refine q_head (by decide +kernel) ?_ (Nat.le_of_ble_eq_true rfl)
  intro p e s m below meth c ls hx hb hret hlk hml hown hnm hg hK hN hI hl
  have hl : lv_has ls 2 [(0, .ref a), (1, .int p1)] := hl
  have hS : qFr (fun q => qIn (a + 1) 13 q ∨ qIn (a + 40) 119 q ∨ qIn (a + 166) 1 q) M0 M0 := qFr.rf
  refine lv_aload_n hx hb dX10_sledge_0 rfl (lv_at hl 0 rfl) ?_
  refine q_get hx hb hg in_X10 hown hK hI hL0 rfl 3 (by decide) (hg _ wf_X10_25) (fun _ h9 => h9) rfl dX10_sledge_1 ?_
  refine lv_aload_n hx hb dX10_sledge_4 rfl (lv_at hl 0 rfl) ?_
  refine q_get hx hb hg in_X10 hown hK hI hL0 rfl 0 (by decide) (hg _ wf_X10_10) (fun _ h9 => h9) rfl dX10_sledge_5 ?_
  refine q_goN (q_runV (As := [.ref (a + 1)]) (rest := []) hx hb hml hown hg (c_X2_draft l D cs hL2 hL1 (by omega)) v_X2_draft wl_X10_77 rfl rfl ⟨Nat.le_of_ble_eq_true rfl, Nat.le_of_ble_eq_true rfl⟩ hI hK 3 hL2.1 rfl hl.1 rfl rfl (Nat.le_of_ble_eq_true rfl) dX10_sledge_8 ⟨Nat.le_of_ble_eq_true rfl, Nat.le_of_ble_eq_true rfl⟩) hI (fun M H locs hp hI => ?_)
  obtain ⟨hn0, hF⟩ := hp
  generalize heg1 : s_X2_draft h q = g1 at hn0 hR
  have hn := hn0
  have hL2 := hn
  have hL0 := hL0.fr hF (fun q h1 h2 hq => by omega)
  have hL1 := hL1.fr hF (fun q h1 h2 hq => by omega)
  have hL3 := hL3.fr hF (fun q h1 h2 hq => by omega)
  have hS := hS.tr hF (fun q hq => by omega)
  refine lv_aload_n hx hb dX10_sledge_11 rfl (lv_at hl 0 rfl) ?_
  refine lv_aload_n hx hb dX10_sledge_12 rfl (lv_at hl 0 rfl) ?_
  refine q_get hx hb hg in_X10 hown hK hI hL0 rfl 0 (by decide) (hg _ wf_X10_10) (fun _ h9 => h9) rfl dX10_sledge_13 ?_
  refine lv_iload_n hx hb dX10_sledge_16 rfl (lv_at hl 1 rfl) ?_
  refine lv_aload_n hx hb dX10_sledge_17 rfl (lv_at hl 0 rfl) ?_
  refine q_get hx hb hg in_X10 hown hK hI hL0 rfl 6 (by decide) (hg _ wf_X10_46) (fun _ h9 => h9) rfl dX10_sledge_18 ?_
  refine q_goP (q_runV (As := [.int p1, .ref (a + 166)]) (rest := [.ref a]) hx hb hml hown hg (c_X5_setSledge l D cs hL1 hL3 (by omega) p1) v_X5_setSledge wl_X10_105 rfl rfl ⟨Nat.le_of_ble_eq_true rfl, Nat.le_of_ble_eq_true rfl⟩ hI hK 6 hL1.1 rfl hl.1 rfl rfl (Nat.le_of_ble_eq_true rfl) dX10_sledge_21 ⟨Nat.le_of_ble_eq_true rfl, Nat.le_of_ble_eq_true rfl⟩) hI (fun M H locs hp hI => ?_)
  obtain ⟨hn0, hn1, hF⟩ := hp
  generalize heg2 : s_X5_setSledge q rs p1 = g2 at hn0 hn1 hR ⊢
  have hn := hn0
  have hL1 := hn
  have hn := hn1
  have hL3 := hn
  have hL0 := hL0.fr hF (fun q h1 h2 hq => by omega)
  have hL2 := hL2.fr hF (fun q h1 h2 hq => by omega)
  have hS := hS.tr hF (fun q hq => by omega)
  refine q_goP (q_runV (As := [.int g2.1]) (rest := []) hx hb hml hown hg (c_X10_settled l D cs hL0 hL2 g2.1) v_X10_settled wl_X10_85 rfl rfl ⟨Nat.le_of_ble_eq_true rfl, Nat.le_of_ble_eq_true rfl⟩ hI hK 10 hL0 rfl hl.1 rfl rfl (Nat.le_of_ble_eq_true rfl) dX10_sledge_24 ⟨Nat.le_of_ble_eq_true rfl, Nat.le_of_ble_eq_true rfl⟩) hI (fun M H locs hp hI => ?_)
  obtain ⟨hn1, hF⟩ := hp
  generalize heg3 : s_X10_settled f g1 g2.1 = g3 at hn1 hR ⊢
  have hn := hn1
  have hL2 := hn
  have hL0 := hL0.fr hF (fun q h1 h2 hq => by omega)
  have hL1 := hL1.fr hF (fun q h1 h2 hq => by omega)
  have hL3 := hL3.fr hF (fun q h1 h2 hq => by omega)
  have hS := hS.tr hF (fun q hq => by omega)
  exact q_iret hx hb hret hlk hN hI (by subst hR; exact ⟨rfl, ⟨hL1, hL2, hL3, hS⟩, rfl⟩) dX10_sledge_27
def s_X10_pull (f : (Int32 × Int32)) (q : qQV) (h : qHV) (rs : qRV)  : Int32 × qQV × qHV × qRV := ((s_X10_settled f (s_X2_draft h q) (s_X5_pullSledges q rs).1).1, (s_X5_pullSledges q rs).2.1, (s_X10_settled f (s_X2_draft h q) (s_X5_pullSledges q rs).1).2, (s_X5_pullSledges q rs).2.2)
set_option maxHeartbeats 4000000 in
set_option maxRecDepth 20000 in
theorem c_X10_pull (l : Launch) (D : va_G) (cs : qC) {M0 : qM} {N a : Nat} {f : (Int32 × Int32)} {q : qQV} {h : qHV} {rs : qRV} (hL0 : qLX cs M0 a f) (hL1 : qLQ cs M0 (a + 1) q) (hL2 : qLH cs M0 (a + 40) h) (hL3 : qLR cs M0 (a + 166) rs) :
    qMet l D cs yX10_pull (qws yX10_pull cX10_pull 1 (some .int)) ({ frames := 6, cells := 0, slots := 0, locals := 144 } : Room) M0 N [.ref a] (qMod N (some (.int ((s_X10_pull f q h rs).1))) (fun M' => qLQ cs M' (a + 1) ((s_X10_pull f q h rs).2.1) ∧ qLH cs M' (a + 40) ((s_X10_pull f q h rs).2.2.1) ∧ qLR cs M' (a + 166) ((s_X10_pull f q h rs).2.2.2) ∧ qFr (fun q => qIn (a + 1) 13 q ∨ qIn (a + 40) 119 q ∨ qIn (a + 166) 1 q) M0 M')) 0 0 := by
  obtain ⟨R, hR⟩ : ∃ R, s_X10_pull f q h rs = R := ⟨_, rfl⟩
  rw [hR]
  rw [s_X10_pull] at hR
  refine q_head (by decide +kernel) ?_ (Nat.le_of_ble_eq_true rfl)
  intro p e s m below meth c ls hx hb hret hlk hml hown hnm hg hK hN hI hl
  have hl : lv_has ls 1 [(0, .ref a)] := hl
  have hS : qFr (fun q => qIn (a + 1) 13 q ∨ qIn (a + 40) 119 q ∨ qIn (a + 166) 1 q) M0 M0 := qFr.rf
  refine lv_aload_n hx hb dX10_pull_0 rfl (lv_at hl 0 rfl) ?_
  refine q_get hx hb hg in_X10 hown hK hI hL0 rfl 3 (by decide) (hg _ wf_X10_25) (fun _ h9 => h9) rfl dX10_pull_1 ?_
  refine lv_aload_n hx hb dX10_pull_4 rfl (lv_at hl 0 rfl) ?_
  refine q_get hx hb hg in_X10 hown hK hI hL0 rfl 0 (by decide) (hg _ wf_X10_10) (fun _ h9 => h9) rfl dX10_pull_5 ?_
  refine q_goN (q_runV (As := [.ref (a + 1)]) (rest := []) hx hb hml hown hg (c_X2_draft l D cs hL2 hL1 (by omega)) v_X2_draft wl_X10_77 rfl rfl ⟨Nat.le_of_ble_eq_true rfl, Nat.le_of_ble_eq_true rfl⟩ hI hK 3 hL2.1 rfl hl.1 rfl rfl (Nat.le_of_ble_eq_true rfl) dX10_pull_8 ⟨Nat.le_of_ble_eq_true rfl, Nat.le_of_ble_eq_true rfl⟩) hI (fun M H locs hp hI => ?_)
  obtain ⟨hn0, hF⟩ := hp
  generalize heg1 : s_X2_draft h q = g1 at hn0 hR
  have hn := hn0
  have hL2 := hn
  have hL0 := hL0.fr hF (fun q h1 h2 hq => by omega)
  have hL1 := hL1.fr hF (fun q h1 h2 hq => by omega)
  have hL3 := hL3.fr hF (fun q h1 h2 hq => by omega)
  have hS := hS.tr hF (fun q hq => by omega)
  refine lv_aload_n hx hb dX10_pull_11 rfl (lv_at hl 0 rfl) ?_
  refine lv_aload_n hx hb dX10_pull_12 rfl (lv_at hl 0 rfl) ?_
  refine q_get hx hb hg in_X10 hown hK hI hL0 rfl 0 (by decide) (hg _ wf_X10_10) (fun _ h9 => h9) rfl dX10_pull_13 ?_
  refine lv_aload_n hx hb dX10_pull_16 rfl (lv_at hl 0 rfl) ?_
  refine q_get hx hb hg in_X10 hown hK hI hL0 rfl 6 (by decide) (hg _ wf_X10_46) (fun _ h9 => h9) rfl dX10_pull_17 ?_
  refine q_goP (q_runV (As := [.ref (a + 166)]) (rest := [.ref a]) hx hb hml hown hg (c_X5_pullSledges l D cs hL1 hL3 (by omega)) v_X5_pullSledges wl_X10_108 rfl rfl ⟨Nat.le_of_ble_eq_true rfl, Nat.le_of_ble_eq_true rfl⟩ hI hK 6 hL1.1 rfl hl.1 rfl rfl (Nat.le_of_ble_eq_true rfl) dX10_pull_20 ⟨Nat.le_of_ble_eq_true rfl, Nat.le_of_ble_eq_true rfl⟩) hI (fun M H locs hp hI => ?_)
  obtain ⟨hn0, hn1, hF⟩ := hp
  generalize heg2 : s_X5_pullSledges q rs = g2 at hn0 hn1 hR ⊢
  have hn := hn0
  have hL1 := hn
  have hn := hn1
  have hL3 := hn
  have hL0 := hL0.fr hF (fun q h1 h2 hq => by omega)
  have hL2 := hL2.fr hF (fun q h1 h2 hq => by omega)
  have hS := hS.tr hF (fun q hq => by omega)
  refine q_goP (q_runV (As := [.int g2.1]) (rest := []) hx hb hml hown hg (c_X10_settled l D cs hL0 hL2 g2.1) v_X10_settled wl_X10_85 rfl rfl ⟨Nat.le_of_ble_eq_true rfl, Nat.le_of_ble_eq_true rfl⟩ hI hK 10 hL0 rfl hl.1 rfl rfl (Nat.le_of_ble_eq_true rfl) dX10_pull_23 ⟨Nat.le_of_ble_eq_true rfl, Nat.le_of_ble_eq_true rfl⟩) hI (fun M H locs hp hI => ?_)
  obtain ⟨hn1, hF⟩ := hp
  generalize heg3 : s_X10_settled f g1 g2.1 = g3 at hn1 hR ⊢
  have hn := hn1
  have hL2 := hn
  have hL0 := hL0.fr hF (fun q h1 h2 hq => by omega)
  have hL1 := hL1.fr hF (fun q h1 h2 hq => by omega)
  have hL3 := hL3.fr hF (fun q h1 h2 hq => by omega)
  have hS := hS.tr hF (fun q hq => by omega)
  exact q_iret hx hb hret hlk hN hI (by subst hR; exact ⟨rfl, ⟨hL1, hL2, hL3, hS⟩, rfl⟩) dX10_pull_26
def s_X10_walk (f : (Int32 × Int32)) (q : qQV) (h : qHV) (p1 : Int32) : Int32 × qQV × qHV := ((s_X10_settled f (s_X2_draft h q) (s_X5_walkTo q p1).1).1, (s_X5_walkTo q p1).2, (s_X10_settled f (s_X2_draft h q) (s_X5_walkTo q p1).1).2)
set_option maxHeartbeats 4000000 in
set_option maxRecDepth 20000 in
theorem c_X10_walk (l : Launch) (D : va_G) (cs : qC) {M0 : qM} {N a : Nat} {f : (Int32 × Int32)} {q : qQV} {h : qHV} (hL0 : qLX cs M0 a f) (hL1 : qLQ cs M0 (a + 1) q) (hL2 : qLH cs M0 (a + 40) h) (p1 : Int32) :
    qMet l D cs yX10_walk (qws yX10_walk cX10_walk 2 (some .int)) ({ frames := 6, cells := 0, slots := 0, locals := 141 } : Room) M0 N [.ref a, .int p1] (qMod N (some (.int ((s_X10_walk f q h p1).1))) (fun M' => qLQ cs M' (a + 1) ((s_X10_walk f q h p1).2.1) ∧ qLH cs M' (a + 40) ((s_X10_walk f q h p1).2.2) ∧ qFr (fun q => qIn (a + 1) 13 q ∨ qIn (a + 40) 119 q) M0 M')) 0 0 := by
  obtain ⟨R, hR⟩ : ∃ R, s_X10_walk f q h p1 = R := ⟨_, rfl⟩
  rw [hR]
  rw [s_X10_walk] at hR
  refine q_head (by decide +kernel) ?_ (Nat.le_of_ble_eq_true rfl)
  intro p e s m below meth c ls hx hb hret hlk hml hown hnm hg hK hN hI hl
  have hl : lv_has ls 2 [(0, .ref a), (1, .int p1)] := hl
  have hS : qFr (fun q => qIn (a + 1) 13 q ∨ qIn (a + 40) 119 q) M0 M0 := qFr.rf
  refine lv_aload_n hx hb dX10_walk_0 rfl (lv_at hl 0 rfl) ?_
  refine q_get hx hb hg in_X10 hown hK hI hL0 rfl 3 (by decide) (hg _ wf_X10_25) (fun _ h9 => h9) rfl dX10_walk_1 ?_
  refine lv_aload_n hx hb dX10_walk_4 rfl (lv_at hl 0 rfl) ?_
  refine q_get hx hb hg in_X10 hown hK hI hL0 rfl 0 (by decide) (hg _ wf_X10_10) (fun _ h9 => h9) rfl dX10_walk_5 ?_
  refine q_goN (q_runV (As := [.ref (a + 1)]) (rest := []) hx hb hml hown hg (c_X2_draft l D cs hL2 hL1 (by omega)) v_X2_draft wl_X10_77 rfl rfl ⟨Nat.le_of_ble_eq_true rfl, Nat.le_of_ble_eq_true rfl⟩ hI hK 3 hL2.1 rfl hl.1 rfl rfl (Nat.le_of_ble_eq_true rfl) dX10_walk_8 ⟨Nat.le_of_ble_eq_true rfl, Nat.le_of_ble_eq_true rfl⟩) hI (fun M H locs hp hI => ?_)
  obtain ⟨hn0, hF⟩ := hp
  generalize heg1 : s_X2_draft h q = g1 at hn0 hR
  have hn := hn0
  have hL2 := hn
  have hL0 := hL0.fr hF (fun q h1 h2 hq => by omega)
  have hL1 := hL1.fr hF (fun q h1 h2 hq => by omega)
  have hS := hS.tr hF (fun q hq => by omega)
  refine lv_aload_n hx hb dX10_walk_11 rfl (lv_at hl 0 rfl) ?_
  refine lv_aload_n hx hb dX10_walk_12 rfl (lv_at hl 0 rfl) ?_
  refine q_get hx hb hg in_X10 hown hK hI hL0 rfl 0 (by decide) (hg _ wf_X10_10) (fun _ h9 => h9) rfl dX10_walk_13 ?_
  refine lv_iload_n hx hb dX10_walk_16 rfl (lv_at hl 1 rfl) ?_
  refine q_goP (q_runV (As := [.int p1]) (rest := [.ref a]) hx hb hml hown hg (c_X5_walkTo l D cs hL1 p1) v_X5_walkTo wl_X10_96 rfl rfl ⟨Nat.le_of_ble_eq_true rfl, Nat.le_of_ble_eq_true rfl⟩ hI hK 6 hL1.1 rfl hl.1 rfl rfl (Nat.le_of_ble_eq_true rfl) dX10_walk_17 ⟨Nat.le_of_ble_eq_true rfl, Nat.le_of_ble_eq_true rfl⟩) hI (fun M H locs hp hI => ?_)
  obtain ⟨hn0, hF⟩ := hp
  generalize heg2 : s_X5_walkTo q p1 = g2 at hn0 hR ⊢
  have hn := hn0
  have hL1 := hn
  have hL0 := hL0.fr hF (fun q h1 h2 hq => by omega)
  have hL2 := hL2.fr hF (fun q h1 h2 hq => by omega)
  have hS := hS.tr hF (fun q hq => by omega)
  refine q_goP (q_runV (As := [.int g2.1]) (rest := []) hx hb hml hown hg (c_X10_settled l D cs hL0 hL2 g2.1) v_X10_settled wl_X10_85 rfl rfl ⟨Nat.le_of_ble_eq_true rfl, Nat.le_of_ble_eq_true rfl⟩ hI hK 10 hL0 rfl hl.1 rfl rfl (Nat.le_of_ble_eq_true rfl) dX10_walk_20 ⟨Nat.le_of_ble_eq_true rfl, Nat.le_of_ble_eq_true rfl⟩) hI (fun M H locs hp hI => ?_)
  obtain ⟨hn1, hF⟩ := hp
  generalize heg3 : s_X10_settled f g1 g2.1 = g3 at hn1 hR ⊢
  have hn := hn1
  have hL2 := hn
  have hL0 := hL0.fr hF (fun q h1 h2 hq => by omega)
  have hL1 := hL1.fr hF (fun q h1 h2 hq => by omega)
  have hS := hS.tr hF (fun q hq => by omega)
  exact q_iret hx hb hret hlk hN hI (by subst hR; exact ⟨rfl, ⟨hL1, hL2, hS⟩, rfl⟩) dX10_walk_23
def s_X10_up (f : (Int32 × Int32)) (q : qQV) (h : qHV) (p1 : Int32) : Int32 × qQV × qHV := ((s_X10_settled f (s_X2_draft h q) (s_X5_goUp q p1).1).1, (s_X5_goUp q p1).2, (s_X10_settled f (s_X2_draft h q) (s_X5_goUp q p1).1).2)
set_option maxHeartbeats 4000000 in
set_option maxRecDepth 20000 in
theorem c_X10_up (l : Launch) (D : va_G) (cs : qC) {M0 : qM} {N a : Nat} {f : (Int32 × Int32)} {q : qQV} {h : qHV} (hL0 : qLX cs M0 a f) (hL1 : qLQ cs M0 (a + 1) q) (hL2 : qLH cs M0 (a + 40) h) (p1 : Int32) :
    qMet l D cs yX10_up (qws yX10_up cX10_up 2 (some .int)) ({ frames := 6, cells := 0, slots := 0, locals := 142 } : Room) M0 N [.ref a, .int p1] (qMod N (some (.int ((s_X10_up f q h p1).1))) (fun M' => qLQ cs M' (a + 1) ((s_X10_up f q h p1).2.1) ∧ qLH cs M' (a + 40) ((s_X10_up f q h p1).2.2) ∧ qFr (fun q => qIn (a + 1) 13 q ∨ qIn (a + 40) 119 q) M0 M')) 0 0 := by
  obtain ⟨R, hR⟩ : ∃ R, s_X10_up f q h p1 = R := ⟨_, rfl⟩
  rw [hR]
  rw [s_X10_up] at hR
  refine q_head (by decide +kernel) ?_ (Nat.le_of_ble_eq_true rfl)
  intro p e s m below meth c ls hx hb hret hlk hml hown hnm hg hK hN hI hl
  have hl : lv_has ls 2 [(0, .ref a), (1, .int p1)] := hl
  have hS : qFr (fun q => qIn (a + 1) 13 q ∨ qIn (a + 40) 119 q) M0 M0 := qFr.rf
  refine lv_aload_n hx hb dX10_up_0 rfl (lv_at hl 0 rfl) ?_
  refine q_get hx hb hg in_X10 hown hK hI hL0 rfl 3 (by decide) (hg _ wf_X10_25) (fun _ h9 => h9) rfl dX10_up_1 ?_
  refine lv_aload_n hx hb dX10_up_4 rfl (lv_at hl 0 rfl) ?_
  refine q_get hx hb hg in_X10 hown hK hI hL0 rfl 0 (by decide) (hg _ wf_X10_10) (fun _ h9 => h9) rfl dX10_up_5 ?_
  refine q_goN (q_runV (As := [.ref (a + 1)]) (rest := []) hx hb hml hown hg (c_X2_draft l D cs hL2 hL1 (by omega)) v_X2_draft wl_X10_77 rfl rfl ⟨Nat.le_of_ble_eq_true rfl, Nat.le_of_ble_eq_true rfl⟩ hI hK 3 hL2.1 rfl hl.1 rfl rfl (Nat.le_of_ble_eq_true rfl) dX10_up_8 ⟨Nat.le_of_ble_eq_true rfl, Nat.le_of_ble_eq_true rfl⟩) hI (fun M H locs hp hI => ?_)
  obtain ⟨hn0, hF⟩ := hp
  generalize heg1 : s_X2_draft h q = g1 at hn0 hR
  have hn := hn0
  have hL2 := hn
  have hL0 := hL0.fr hF (fun q h1 h2 hq => by omega)
  have hL1 := hL1.fr hF (fun q h1 h2 hq => by omega)
  have hS := hS.tr hF (fun q hq => by omega)
  refine lv_aload_n hx hb dX10_up_11 rfl (lv_at hl 0 rfl) ?_
  refine lv_aload_n hx hb dX10_up_12 rfl (lv_at hl 0 rfl) ?_
  refine q_get hx hb hg in_X10 hown hK hI hL0 rfl 0 (by decide) (hg _ wf_X10_10) (fun _ h9 => h9) rfl dX10_up_13 ?_
  refine lv_iload_n hx hb dX10_up_16 rfl (lv_at hl 1 rfl) ?_
  refine q_goP (q_runV (As := [.int p1]) (rest := [.ref a]) hx hb hml hown hg (c_X5_goUp l D cs hL1 p1) v_X5_goUp wl_X10_99 rfl rfl ⟨Nat.le_of_ble_eq_true rfl, Nat.le_of_ble_eq_true rfl⟩ hI hK 6 hL1.1 rfl hl.1 rfl rfl (Nat.le_of_ble_eq_true rfl) dX10_up_17 ⟨Nat.le_of_ble_eq_true rfl, Nat.le_of_ble_eq_true rfl⟩) hI (fun M H locs hp hI => ?_)
  obtain ⟨hn0, hF⟩ := hp
  generalize heg2 : s_X5_goUp q p1 = g2 at hn0 hR ⊢
  have hn := hn0
  have hL1 := hn
  have hL0 := hL0.fr hF (fun q h1 h2 hq => by omega)
  have hL2 := hL2.fr hF (fun q h1 h2 hq => by omega)
  have hS := hS.tr hF (fun q hq => by omega)
  refine q_goP (q_runV (As := [.int g2.1]) (rest := []) hx hb hml hown hg (c_X10_settled l D cs hL0 hL2 g2.1) v_X10_settled wl_X10_85 rfl rfl ⟨Nat.le_of_ble_eq_true rfl, Nat.le_of_ble_eq_true rfl⟩ hI hK 10 hL0 rfl hl.1 rfl rfl (Nat.le_of_ble_eq_true rfl) dX10_up_20 ⟨Nat.le_of_ble_eq_true rfl, Nat.le_of_ble_eq_true rfl⟩) hI (fun M H locs hp hI => ?_)
  obtain ⟨hn1, hF⟩ := hp
  generalize heg3 : s_X10_settled f g1 g2.1 = g3 at hn1 hR ⊢
  have hn := hn1
  have hL2 := hn
  have hL0 := hL0.fr hF (fun q h1 h2 hq => by omega)
  have hL1 := hL1.fr hF (fun q h1 h2 hq => by omega)
  have hS := hS.tr hF (fun q hq => by omega)
  exact q_iret hx hb hret hlk hN hI (by subst hR; exact ⟨rfl, ⟨hL1, hL2, hS⟩, rfl⟩) dX10_up_23
def s_X10_undo (f : (Int32 × Int32)) (q : qQV) (h : qHV)  : Int32 × qQV × qHV := (if (qbi (s_X2_takeBack h q).1) = 0 then ((-4), (s_X2_takeBack h q).2.2, (s_X2_takeBack h q).2.1) else ((s_X2_takeBack h q).2.1.2.2, (s_X2_takeBack h q).2.2, (s_X2_takeBack h q).2.1))
set_option maxHeartbeats 4000000 in
set_option maxRecDepth 20000 in
theorem c_X10_undo (l : Launch) (D : va_G) (cs : qC) {M0 : qM} {N a : Nat} {f : (Int32 × Int32)} {q : qQV} {h : qHV} (hL0 : qLX cs M0 a f) (hL1 : qLQ cs M0 (a + 1) q) (hL2 : qLH cs M0 (a + 40) h) :
    qMet l D cs yX10_undo (qws yX10_undo cX10_undo 1 (some .int)) ({ frames := 6, cells := 0, slots := 0, locals := 129 } : Room) M0 N [.ref a] (qMod N (some (.int ((s_X10_undo f q h).1))) (fun M' => qLQ cs M' (a + 1) ((s_X10_undo f q h).2.1) ∧ qLH cs M' (a + 40) ((s_X10_undo f q h).2.2) ∧ qFr (fun q => qIn (a + 1) 13 q ∨ qIn (a + 40) 119 q) M0 M')) 0 0 := by
  obtain ⟨R, hR⟩ : ∃ R, s_X10_undo f q h = R := ⟨_, rfl⟩
  rw [hR]
  rw [s_X10_undo] at hR
  refine q_head (by decide +kernel) ?_ (Nat.le_of_ble_eq_true rfl)
  intro p e s m below meth c ls hx hb hret hlk hml hown hnm hg hK hN hI hl
  have hl : lv_has ls 1 [(0, .ref a)] := hl
  have hS : qFr (fun q => qIn (a + 1) 13 q ∨ qIn (a + 40) 119 q) M0 M0 := qFr.rf
  refine lv_aload_n hx hb dX10_undo_0 rfl (lv_at hl 0 rfl) ?_
  refine q_get hx hb hg in_X10 hown hK hI hL0 rfl 3 (by decide) (hg _ wf_X10_25) (fun _ h9 => h9) rfl dX10_undo_1 ?_
  refine lv_aload_n hx hb dX10_undo_4 rfl (lv_at hl 0 rfl) ?_
  refine q_get hx hb hg in_X10 hown hK hI hL0 rfl 0 (by decide) (hg _ wf_X10_10) (fun _ h9 => h9) rfl dX10_undo_5 ?_
  refine q_goP (q_runV (As := [.ref (a + 1)]) (rest := []) hx hb hml hown hg (c_X2_takeBack l D cs hL2 hL1 (by omega)) v_X2_takeBack wl_X10_306 rfl rfl ⟨Nat.le_of_ble_eq_true rfl, Nat.le_of_ble_eq_true rfl⟩ hI hK 3 hL2.1 rfl hl.1 rfl rfl (Nat.le_of_ble_eq_true rfl) dX10_undo_8 ⟨Nat.le_of_ble_eq_true rfl, Nat.le_of_ble_eq_true rfl⟩) hI (fun M H locs hp hI => ?_)
  obtain ⟨hn0, hn1, hF⟩ := hp
  generalize heg1 : s_X2_takeBack h q = g1 at hn0 hn1 hR ⊢
  have hn := hn0
  have hL2 := hn
  have hn := hn1
  have hL1 := hn
  have hL0 := hL0.fr hF (fun q h1 h2 hq => by omega)
  have hS := hS.tr hF (fun q hq => by omega)
  refine lv_if_eq (tgt := 24) hx hb dX10_undo_11 (by decide) (fun c2 => ?_) (fun c2 => ?_)
  · rw [if_pos c2] at hR
    refine lv_bipush (v := (-4)) hx hb dX10_undo_24 (by decide) ?_
    exact q_iret hx hb hret hlk hN hI (by subst hR; exact ⟨rfl, ⟨hL1, hL2, hS⟩, rfl⟩) dX10_undo_26
  · rw [if_neg c2] at hR
    refine lv_aload_n hx hb dX10_undo_14 rfl (lv_at hl 0 rfl) ?_
    refine q_get hx hb hg in_X10 hown hK hI hL0 rfl 3 (by decide) (hg _ wf_X10_25) (fun _ h9 => h9) rfl dX10_undo_15 ?_
    refine q_getN hx hb hg in_X2 hown hK hI hL2.1 rfl 2 (by decide) (hK.2 _ (List.mem_of_getElem? (i := 18) rfl)) (fun _ h9 => h9) rfl dX10_undo_18 ?_
    refine lv_goto (tgt := 26) hx hb dX10_undo_21 (by decide) ?_
    exact q_iret hx hb hret hlk hN hI (by subst hR; exact ⟨rfl, ⟨hL1, hL2, hS⟩, rfl⟩) dX10_undo_26
def s_X10_save (f : (Int32 × Int32)) (q : qQV) (qk : qQV)  : Int32 × (Int32 × Int32) × qQV := (q.1.2.2, (f.1, 1), (s_X5_takeOver qk q))
set_option maxHeartbeats 4000000 in
set_option maxRecDepth 20000 in
theorem c_X10_save (l : Launch) (D : va_G) (cs : qC) {M0 : qM} {N a : Nat} {f : (Int32 × Int32)} {q : qQV} {qk : qQV} (hL0 : qLX cs M0 a f) (hL1 : qLQ cs M0 (a + 1) q) (hL2 : qLQ cs M0 (a + 14) qk) :
    qMet l D cs yX10_save (qws yX10_save cX10_save 1 (some .int)) ({ frames := 4, cells := 0, slots := 0, locals := 85 } : Room) M0 N [.ref a] (qMod N (some (.int ((s_X10_save f q qk).1))) (fun M' => qLX cs M' a ((s_X10_save f q qk).2.1) ∧ qLQ cs M' (a + 14) ((s_X10_save f q qk).2.2) ∧ qFr (fun q => qIn a 1 q ∨ qIn (a + 14) 13 q) M0 M')) 0 0 := by
  obtain ⟨R, hR⟩ : ∃ R, s_X10_save f q qk = R := ⟨_, rfl⟩
  rw [hR]
  rw [s_X10_save] at hR
  refine q_head (by decide +kernel) ?_ (Nat.le_of_ble_eq_true rfl)
  intro p e s m below meth c ls hx hb hret hlk hml hown hnm hg hK hN hI hl
  have hl : lv_has ls 1 [(0, .ref a)] := hl
  have hS : qFr (fun q => qIn a 1 q ∨ qIn (a + 14) 13 q) M0 M0 := qFr.rf
  refine lv_aload_n hx hb dX10_save_0 rfl (lv_at hl 0 rfl) ?_
  refine q_get hx hb hg in_X10 hown hK hI hL0 rfl 1 (by decide) (hg _ wf_X10_16) (fun _ h9 => h9) rfl dX10_save_1 ?_
  refine lv_aload_n hx hb dX10_save_4 rfl (lv_at hl 0 rfl) ?_
  refine q_get hx hb hg in_X10 hown hK hI hL0 rfl 0 (by decide) (hg _ wf_X10_10) (fun _ h9 => h9) rfl dX10_save_5 ?_
  refine q_goN (q_runV (As := [.ref (a + 1)]) (rest := []) hx hb hml hown hg (c_X5_takeOver l D cs hL2 hL1 (by omega)) v_X5_takeOver wl_X10_217 rfl rfl ⟨Nat.le_of_ble_eq_true rfl, Nat.le_of_ble_eq_true rfl⟩ hI hK 6 hL2.1 rfl hl.1 rfl rfl (Nat.le_of_ble_eq_true rfl) dX10_save_8 ⟨Nat.le_of_ble_eq_true rfl, Nat.le_of_ble_eq_true rfl⟩) hI (fun M H locs hp hI => ?_)
  obtain ⟨hn0, hF⟩ := hp
  generalize heg1 : s_X5_takeOver qk q = g1 at hn0 hR
  have hn := hn0
  have hL2 := hn
  have hL0 := hL0.fr hF (fun q h1 h2 hq => by omega)
  have hL1 := hL1.fr hF (fun q h1 h2 hq => by omega)
  have hS := hS.tr hF (fun q hq => by omega)
  refine lv_aload_n hx hb dX10_save_11 rfl (lv_at hl 0 rfl) ?_
  refine lv_iconst (v := 1) hx hb dX10_save_12 (by decide) ?_
  have hn := qLX.i8 1 hL0
  refine q_put (v := .int 1) hx hb hg in_X10 tyX10_ok nmX10 hown hK hI hL0 rfl 8 (by decide) (hg _ wf_X10_54) (fun _ h9 => h9) rfl rfl rfl (Nat.le_of_ble_eq_true rfl) dX10_save_13 (fun H locs hI => ?_)
  obtain ⟨M, hn, hF, hI⟩ : ∃ Mx : qM, qLX cs Mx a (f.1, 1) ∧ qFr (qIn a 1) M Mx ∧ qI D M0 s.heap Mx N H locs := ⟨_, hn, qFr.up (by decide), hI⟩
  have hL0 := hn
  have hL1 := hL1.fr hF (fun q h1 h2 hq => by omega)
  have hL2 := hL2.fr hF (fun q h1 h2 hq => by omega)
  have hS := hS.tr hF (fun q hq => by omega)
  refine lv_aload_n hx hb dX10_save_16 rfl (lv_at hl 0 rfl) ?_
  refine q_get hx hb hg in_X10 hown hK hI hL0 rfl 0 (by decide) (hg _ wf_X10_10) (fun _ h9 => h9) rfl dX10_save_17 ?_
  refine q_getN hx hb hg in_X5 hown hK hI hL1.1 rfl 0 (by decide) (hK.2 _ (List.mem_of_getElem? (i := 12) rfl)) (fun _ h9 => h9) rfl dX10_save_20 ?_
  refine q_getN hx hb hg in_X1 hown hK hI hL1.2.1.1 rfl 2 (by decide) (hK.2 _ (List.mem_of_getElem? (i := 4) rfl)) (fun _ h9 => h9) rfl dX10_save_23 ?_
  exact q_iret hx hb hret hlk hN hI (by subst hR; exact ⟨rfl, ⟨hL0, hL2, hS⟩, rfl⟩) dX10_save_26
def s_X10_restore (f : (Int32 × Int32)) (q : qQV) (qk : qQV) (h : qHV)  : Int32 × qQV × qHV := (if f.2 = 0 then ((-4), q, h) else ((s_X5_takeOver q qk).1.2.2, (s_X5_takeOver q qk), (s_X2_forget h)))
set_option maxHeartbeats 4000000 in
set_option maxRecDepth 20000 in
theorem c_X10_restore (l : Launch) (D : va_G) (cs : qC) {M0 : qM} {N a : Nat} {f : (Int32 × Int32)} {q : qQV} {qk : qQV} {h : qHV} (hL0 : qLX cs M0 a f) (hL1 : qLQ cs M0 (a + 1) q) (hL2 : qLQ cs M0 (a + 14) qk) (hL3 : qLH cs M0 (a + 40) h) :
    qMet l D cs yX10_restore (qws yX10_restore cX10_restore 1 (some .int)) ({ frames := 4, cells := 0, slots := 0, locals := 85 } : Room) M0 N [.ref a] (qMod N (some (.int ((s_X10_restore f q qk h).1))) (fun M' => qLQ cs M' (a + 1) ((s_X10_restore f q qk h).2.1) ∧ qLH cs M' (a + 40) ((s_X10_restore f q qk h).2.2) ∧ qFr (fun q => qIn (a + 1) 13 q ∨ qIn (a + 40) 119 q) M0 M')) 0 0 := by
  obtain ⟨R, hR⟩ : ∃ R, s_X10_restore f q qk h = R := ⟨_, rfl⟩
  rw [hR]
  rw [s_X10_restore] at hR
  refine q_head (by decide +kernel) ?_ (Nat.le_of_ble_eq_true rfl)
  intro p e s m below meth c ls hx hb hret hlk hml hown hnm hg hK hN hI hl
  have hl : lv_has ls 1 [(0, .ref a)] := hl
  have hS : qFr (fun q => qIn (a + 1) 13 q ∨ qIn (a + 40) 119 q) M0 M0 := qFr.rf
  refine lv_aload_n hx hb dX10_restore_0 rfl (lv_at hl 0 rfl) ?_
  refine q_get hx hb hg in_X10 hown hK hI hL0 rfl 8 (by decide) (hg _ wf_X10_54) (fun _ h9 => h9) rfl dX10_restore_1 ?_
  refine lv_if_ne (tgt := 10) hx hb dX10_restore_4 (by decide) (fun c1 => ?_) (fun c1 => ?_)
  · rw [if_neg c1] at hR
    refine lv_aload_n hx hb dX10_restore_10 rfl (lv_at hl 0 rfl) ?_
    refine q_get hx hb hg in_X10 hown hK hI hL0 rfl 0 (by decide) (hg _ wf_X10_10) (fun _ h9 => h9) rfl dX10_restore_11 ?_
    refine lv_aload_n hx hb dX10_restore_14 rfl (lv_at hl 0 rfl) ?_
    refine q_get hx hb hg in_X10 hown hK hI hL0 rfl 1 (by decide) (hg _ wf_X10_16) (fun _ h9 => h9) rfl dX10_restore_15 ?_
    refine q_goN (q_runV (As := [.ref (a + 14)]) (rest := []) hx hb hml hown hg (c_X5_takeOver l D cs hL1 hL2 (by omega)) v_X5_takeOver wl_X10_217 rfl rfl ⟨Nat.le_of_ble_eq_true rfl, Nat.le_of_ble_eq_true rfl⟩ hI hK 6 hL1.1 rfl hl.1 rfl rfl (Nat.le_of_ble_eq_true rfl) dX10_restore_18 ⟨Nat.le_of_ble_eq_true rfl, Nat.le_of_ble_eq_true rfl⟩) hI (fun M H locs hp hI => ?_)
    obtain ⟨hn0, hF⟩ := hp
    generalize heg2 : s_X5_takeOver q qk = g2 at hn0 hR
    have hn := hn0
    have hL1 := hn
    have hL0 := hL0.fr hF (fun q h1 h2 hq => by omega)
    have hL2 := hL2.fr hF (fun q h1 h2 hq => by omega)
    have hL3 := hL3.fr hF (fun q h1 h2 hq => by omega)
    have hS := hS.tr hF (fun q hq => by omega)
    refine lv_aload_n hx hb dX10_restore_21 rfl (lv_at hl 0 rfl) ?_
    refine q_get hx hb hg in_X10 hown hK hI hL0 rfl 3 (by decide) (hg _ wf_X10_25) (fun _ h9 => h9) rfl dX10_restore_22 ?_
    refine q_goN (q_runV (As := []) (rest := []) hx hb hml hown hg (c_X2_forget l D cs hL3) v_X2_forget wl_X10_70 rfl rfl ⟨Nat.le_of_ble_eq_true rfl, Nat.le_of_ble_eq_true rfl⟩ hI hK 3 hL3.1 rfl hl.1 rfl rfl (Nat.le_of_ble_eq_true rfl) dX10_restore_25 ⟨Nat.le_of_ble_eq_true rfl, Nat.le_of_ble_eq_true rfl⟩) hI (fun M H locs hp hI => ?_)
    obtain ⟨hn0, hF⟩ := hp
    generalize heg3 : s_X2_forget h = g3 at hn0 hR
    have hn := hn0
    have hL3 := hn
    have hL0 := hL0.fr hF (fun q h1 h2 hq => by omega)
    have hL1 := hL1.fr hF (fun q h1 h2 hq => by omega)
    have hL2 := hL2.fr hF (fun q h1 h2 hq => by omega)
    have hS := hS.tr hF (fun q hq => by omega)
    refine lv_aload_n hx hb dX10_restore_28 rfl (lv_at hl 0 rfl) ?_
    refine q_get hx hb hg in_X10 hown hK hI hL0 rfl 0 (by decide) (hg _ wf_X10_10) (fun _ h9 => h9) rfl dX10_restore_29 ?_
    refine q_getN hx hb hg in_X5 hown hK hI hL1.1 rfl 0 (by decide) (hK.2 _ (List.mem_of_getElem? (i := 12) rfl)) (fun _ h9 => h9) rfl dX10_restore_32 ?_
    refine q_getN hx hb hg in_X1 hown hK hI hL1.2.1.1 rfl 2 (by decide) (hK.2 _ (List.mem_of_getElem? (i := 4) rfl)) (fun _ h9 => h9) rfl dX10_restore_35 ?_
    exact q_iret hx hb hret hlk hN hI (by subst hR; exact ⟨rfl, ⟨hL1, hL3, hS⟩, rfl⟩) dX10_restore_38
  · rw [if_pos c1] at hR
    refine lv_bipush (v := (-4)) hx hb dX10_restore_7 (by decide) ?_
    exact q_iret hx hb hret hlk hN hI (by subst hR; exact ⟨rfl, ⟨hL1, hL3, hS⟩, rfl⟩) dX10_restore_9
def s_X10_writeRope_L22 (f : (Int32 × Int32)) (q : qQV) (p1 : Int32) : Nat → Int32 → Int32 → qNV → qNV
  | 0, _, _, _ => default
  | n + 1, x2h22, x3h22, z2 => (if 16 ≤ x3h22 then z2 else (if x2h22 < 0 then z2 else (s_X10_writeRope_L22 f q p1 n (s_X8_behind q.2.1 x2h22) (x3h22 + 1) (s_X4_addNumber (s_X4_addSign z2 45) x2h22))))
def s_X10_writeRope (f : (Int32 × Int32)) (q : qQV) (n : qNV) (p1 : Int32) : qNV := (s_X10_writeRope_L22 f q p1 ((16 : Int32).toInt.toNat + 1) (s_X8_behind q.2.1 p1) 0 (s_X4_addNumber n p1))
set_option maxHeartbeats 4000000 in
set_option maxRecDepth 20000 in
theorem c_X10_writeRope (l : Launch) (D : va_G) (cs : qC) {M0 : qM} {N a : Nat} {f : (Int32 × Int32)} {q : qQV} {n : qNV} (hL0 : qLX cs M0 a f) (hL1 : qLQ cs M0 (a + 1) q) (hL2 : qLN cs M0 (a + 164) n) (p1 : Int32) :
    qMet l D cs yX10_writeRope (qws yX10_writeRope cX10_writeRope 4 none) ({ frames := 4, cells := 0, slots := 0, locals := 92 } : Room) M0 N [.ref a, .int p1] (qMod N none (fun M' => qLN cs M' (a + 164) (s_X10_writeRope f q n p1) ∧ qFr (qIn (a + 164) 2) M0 M')) 0 0 := by
  obtain ⟨R, hR⟩ : ∃ R, s_X10_writeRope f q n p1 = R := ⟨_, rfl⟩
  rw [hR]
  rw [s_X10_writeRope] at hR
  refine q_head (by decide +kernel) ?_ (Nat.le_of_ble_eq_true rfl)
  intro p e s m below meth c ls hx hb hret hlk hml hown hnm hg hK hN hI hl
  have hl : lv_has ls 4 [(0, .ref a), (1, .int p1)] := hl
  have hS : qFr (qIn (a + 164) 2) M0 M0 := qFr.rf
  refine lv_aload_n hx hb dX10_writeRope_0 rfl (lv_at hl 0 rfl) ?_
  refine q_get hx hb hg in_X10 hown hK hI hL0 rfl 5 (by decide) (hg _ wf_X10_39) (fun _ h9 => h9) rfl dX10_writeRope_1 ?_
  refine lv_iload_n hx hb dX10_writeRope_4 rfl (lv_at hl 1 rfl) ?_
  refine q_goN (q_runV (As := [.int p1]) (rest := []) hx hb hml hown hg (c_X4_addNumber l D cs hL2 p1) v_X4_addNumber wl_X10_335 rfl rfl ⟨Nat.le_of_ble_eq_true rfl, Nat.le_of_ble_eq_true rfl⟩ hI hK 5 hL2.1 rfl hl.1 rfl rfl (Nat.le_of_ble_eq_true rfl) dX10_writeRope_5 ⟨Nat.le_of_ble_eq_true rfl, Nat.le_of_ble_eq_true rfl⟩) hI (fun M H locs hp hI => ?_)
  obtain ⟨hn0, hF⟩ := hp
  generalize heg1 : s_X4_addNumber n p1 = g1 at hn0 hR
  have hn := hn0
  have hL2 := hn
  have hL0 := hL0.fr hF (fun q h1 h2 hq => by omega)
  have hL1 := hL1.fr hF (fun q h1 h2 hq => by omega)
  have hS := hS.tr hF (fun q hq => by omega)
  refine lv_aload_n hx hb dX10_writeRope_8 rfl (lv_at hl 0 rfl) ?_
  refine q_get hx hb hg in_X10 hown hK hI hL0 rfl 0 (by decide) (hg _ wf_X10_10) (fun _ h9 => h9) rfl dX10_writeRope_9 ?_
  refine q_getN hx hb hg in_X5 hown hK hI hL1.1 rfl 1 (by decide) (hK.2 _ (List.mem_of_getElem? (i := 13) rfl)) (fun _ h9 => h9) rfl dX10_writeRope_12 ?_
  refine lv_iload_n hx hb dX10_writeRope_15 rfl (lv_at hl 1 rfl) ?_
  refine q_goR (q_runV (As := [.int p1]) (rest := []) hx hb hml hown hg (c_X8_behind l D cs hL1.2.2.1 p1) v_X8_behind wl_X10_338 rfl rfl ⟨Nat.le_of_ble_eq_true rfl, Nat.le_of_ble_eq_true rfl⟩ hI hK 9 hL1.2.2.1.1 rfl hl.1 rfl rfl (Nat.le_of_ble_eq_true rfl) dX10_writeRope_16 ⟨Nat.le_of_ble_eq_true rfl, Nat.le_of_ble_eq_true rfl⟩) hI (fun H locs hI => ?_)
  refine lv_istore_n (lv' := [(2, .int (s_X8_behind q.2.1 p1)), (0, .ref a), (1, .int p1)]) hx hb dX10_writeRope_19 rfl hl (by decide) rfl (fun ls hl => ?_)
  refine lv_iconst (v := 0) hx hb dX10_writeRope_20 (by decide) ?_
  refine lv_istore_n (lv' := [(3, .int 0), (2, .int (s_X8_behind q.2.1 p1)), (0, .ref a), (1, .int p1)]) hx hb dX10_writeRope_21 rfl hl (by decide) rfl (fun ls hl => ?_)
  have loop22 : ∀ (n22 : Nat) (x2h22 : Int32) (x3h22 : Int32) (z2 : qNV), qmu 16 x3h22 < n22 → s_X10_writeRope_L22 f q p1 n22 x2h22 x3h22 z2 = R → ∀ (M : qM) (H : Heap) (locs : List Loc) (ls : Array Slot), qLX cs M a f → qLQ cs M (a + 1) q → qLN cs M (a + 164) z2 → qFr (qIn (a + 164) 2) M0 M → qI D M0 s.heap M N H locs → lv_has ls 4 [(0, .ref a), (1, .int p1), (2, .int x2h22), (3, .int x3h22)] →
      W p l e ({ frames := 4, cells := 0, slots := 0, locals := 92 } : Room) s m [Value.ref a, Value.int p1].toArray below meth c H locs 0 0 (MQ below (qQ D M0 N (qMod N none (fun M' => qLN cs M' (a + 164) R ∧ qFr (qIn (a + 164) 2) M0 M'))) [Value.ref a, Value.int p1].toArray s 0 0 (qA M0 N)) (F0 m 22 ls []) := by
    intro n22
    induction n22 with
    | zero => intro x2h22 x3h22 z2 hm; exact absurd hm (Nat.not_lt_zero _)
    | succ n22 ih22 =>
      intro x2h22 x3h22 z2 hm22 hR M H locs ls hL0 hL1 hL2 hS hI hl
      rw [s_X10_writeRope_L22] at hR
      refine lv_iload_n hx hb dX10_writeRope_22 rfl (lv_at hl 3 rfl) ?_
      refine lv_bipush (v := 16) hx hb dX10_writeRope_23 (by decide) ?_
      refine lv_icmp_ge (tgt := 67) hx hb dX10_writeRope_25 (by decide) (fun c2 => ?_) (fun c2 => ?_)
      · rw [if_pos c2] at hR
        exact q_vret (st := []) hx hb hret hlk hN hI (by subst hR; exact ⟨rfl, ⟨hL2, hS⟩, rfl⟩) dX10_writeRope_67
      · rw [if_neg c2] at hR
        refine lv_iload_n hx hb dX10_writeRope_28 rfl (lv_at hl 2 rfl) ?_
        refine lv_if_lt (tgt := 67) hx hb dX10_writeRope_29 (by decide) (fun c3 => ?_) (fun c3 => ?_)
        · rw [if_pos c3] at hR
          exact q_vret (st := []) hx hb hret hlk hN hI (by subst hR; exact ⟨rfl, ⟨hL2, hS⟩, rfl⟩) dX10_writeRope_67
        · rw [if_neg c3] at hR
          refine lv_aload_n hx hb dX10_writeRope_32 rfl (lv_at hl 0 rfl) ?_
          refine q_get hx hb hg in_X10 hown hK hI hL0 rfl 5 (by decide) (hg _ wf_X10_39) (fun _ h9 => h9) rfl dX10_writeRope_33 ?_
          refine lv_bipush (v := 45) hx hb dX10_writeRope_36 (by decide) ?_
          refine q_goN (q_runV (As := [.int 45]) (rest := []) hx hb hml hown hg (c_X4_addSign l D cs hL2 45) v_X4_addSign wl_X10_261 rfl rfl ⟨Nat.le_of_ble_eq_true rfl, Nat.le_of_ble_eq_true rfl⟩ hI hK 5 hL2.1 rfl hl.1 rfl rfl (Nat.le_of_ble_eq_true rfl) dX10_writeRope_38 ⟨Nat.le_of_ble_eq_true rfl, Nat.le_of_ble_eq_true rfl⟩) hI (fun M H locs hp hI => ?_)
          obtain ⟨hn0, hF⟩ := hp
          generalize heg4 : s_X4_addSign z2 45 = g4 at hn0 hR
          have hn := hn0
          have hL2 := hn
          have hL0 := hL0.fr hF (fun q h1 h2 hq => by omega)
          have hL1 := hL1.fr hF (fun q h1 h2 hq => by omega)
          have hS := hS.tr hF (fun q hq => by omega)
          refine lv_aload_n hx hb dX10_writeRope_41 rfl (lv_at hl 0 rfl) ?_
          refine q_get hx hb hg in_X10 hown hK hI hL0 rfl 5 (by decide) (hg _ wf_X10_39) (fun _ h9 => h9) rfl dX10_writeRope_42 ?_
          refine lv_iload_n hx hb dX10_writeRope_45 rfl (lv_at hl 2 rfl) ?_
          refine q_goN (q_runV (As := [.int x2h22]) (rest := []) hx hb hml hown hg (c_X4_addNumber l D cs hL2 x2h22) v_X4_addNumber wl_X10_335 rfl rfl ⟨Nat.le_of_ble_eq_true rfl, Nat.le_of_ble_eq_true rfl⟩ hI hK 5 hL2.1 rfl hl.1 rfl rfl (Nat.le_of_ble_eq_true rfl) dX10_writeRope_46 ⟨Nat.le_of_ble_eq_true rfl, Nat.le_of_ble_eq_true rfl⟩) hI (fun M H locs hp hI => ?_)
          obtain ⟨hn0, hF⟩ := hp
          generalize heg5 : s_X4_addNumber g4 x2h22 = g5 at hn0 hR
          have hn := hn0
          have hL2 := hn
          have hL0 := hL0.fr hF (fun q h1 h2 hq => by omega)
          have hL1 := hL1.fr hF (fun q h1 h2 hq => by omega)
          have hS := hS.tr hF (fun q hq => by omega)
          refine lv_aload_n hx hb dX10_writeRope_49 rfl (lv_at hl 0 rfl) ?_
          refine q_get hx hb hg in_X10 hown hK hI hL0 rfl 0 (by decide) (hg _ wf_X10_10) (fun _ h9 => h9) rfl dX10_writeRope_50 ?_
          refine q_getN hx hb hg in_X5 hown hK hI hL1.1 rfl 1 (by decide) (hK.2 _ (List.mem_of_getElem? (i := 13) rfl)) (fun _ h9 => h9) rfl dX10_writeRope_53 ?_
          refine lv_iload_n hx hb dX10_writeRope_56 rfl (lv_at hl 2 rfl) ?_
          refine q_goR (q_runV (As := [.int x2h22]) (rest := []) hx hb hml hown hg (c_X8_behind l D cs hL1.2.2.1 x2h22) v_X8_behind wl_X10_338 rfl rfl ⟨Nat.le_of_ble_eq_true rfl, Nat.le_of_ble_eq_true rfl⟩ hI hK 9 hL1.2.2.1.1 rfl hl.1 rfl rfl (Nat.le_of_ble_eq_true rfl) dX10_writeRope_57 ⟨Nat.le_of_ble_eq_true rfl, Nat.le_of_ble_eq_true rfl⟩) hI (fun H locs hI => ?_)
          refine lv_istore_n (lv' := [(2, .int (s_X8_behind q.2.1 x2h22)), (0, .ref a), (1, .int p1), (3, .int x3h22)]) hx hb dX10_writeRope_60 rfl hl (by decide) rfl (fun ls hl => ?_)
          refine lv_iinc (v := x3h22 + 1) (lv' := [(3, .int (x3h22 + 1)), (2, .int (s_X8_behind q.2.1 x2h22)), (0, .ref a), (1, .int p1)]) hx hb dX10_writeRope_61 hl (k := 3) rfl rfl (by decide) rfl (fun ls hl => ?_)
          refine lv_goto (tgt := 22) hx hb dX10_writeRope_64 (by decide) ?_
          exact ih22 (s_X8_behind q.2.1 x2h22) (x3h22 + 1) g5 (q_mu c2 hm22) hR _ _ _ _ hL0 hL1 hL2 hS hI (lv_sub hl [2, 3, 1, 0] rfl)
  exact loop22 _ (s_X8_behind q.2.1 p1) 0 g1 (q_fuel _) hR _ _ _ _ hL0 hL1 hL2 hS hI (lv_sub hl [2, 3, 1, 0] rfl)
def s_X10_tellRopes_L9 (f : (Int32 × Int32)) (q : qQV) : Nat → Int32 → qNV → (Int32 × qNV)
  | 0, _, _ => default
  | n + 1, x1h9, z2 => (if q.1.2.2 ≤ x1h9 then (z2.2, z2) else (if (s_X8_topOf q.2.1 x1h9) = x1h9 then (if z2.2 ≤ 0 then (s_X10_tellRopes_L9 f q n (x1h9 + 1) (s_X10_writeRope f q z2 x1h9)) else (s_X10_tellRopes_L9 f q n (x1h9 + 1) (s_X10_writeRope f q (s_X4_addSign z2 32) x1h9))) else (s_X10_tellRopes_L9 f q n (x1h9 + 1) z2)))
def s_X10_tellRopes (f : (Int32 × Int32)) (q : qQV) (n : qNV)  : Int32 × qNV := (s_X10_tellRopes_L9 f q (q.1.2.2.toInt.toNat + 1) 0 (s_X4_makeEmpty n))
set_option maxHeartbeats 4000000 in
set_option maxRecDepth 20000 in
theorem c_X10_tellRopes (l : Launch) (D : va_G) (cs : qC) {M0 : qM} {N a : Nat} {f : (Int32 × Int32)} {q : qQV} {n : qNV} (hL0 : qLX cs M0 a f) (hL1 : qLQ cs M0 (a + 1) q) (hL2 : qLN cs M0 (a + 164) n) :
    qMet l D cs yX10_tellRopes (qws yX10_tellRopes cX10_tellRopes 2 (some .int)) ({ frames := 5, cells := 0, slots := 0, locals := 115 } : Room) M0 N [.ref a] (qMod N (some (.int ((s_X10_tellRopes f q n).1))) (fun M' => qLN cs M' (a + 164) ((s_X10_tellRopes f q n).2) ∧ qFr (qIn (a + 164) 2) M0 M')) 0 0 := by
  obtain ⟨R, hR⟩ : ∃ R, s_X10_tellRopes f q n = R := ⟨_, rfl⟩
  rw [hR]
  rw [s_X10_tellRopes] at hR
  refine q_head (by decide +kernel) ?_ (Nat.le_of_ble_eq_true rfl)
  intro p e s m below meth c ls hx hb hret hlk hml hown hnm hg hK hN hI hl
  have hl : lv_has ls 2 [(0, .ref a)] := hl
  have hS : qFr (qIn (a + 164) 2) M0 M0 := qFr.rf
  refine lv_aload_n hx hb dX10_tellRopes_0 rfl (lv_at hl 0 rfl) ?_
  refine q_get hx hb hg in_X10 hown hK hI hL0 rfl 5 (by decide) (hg _ wf_X10_39) (fun _ h9 => h9) rfl dX10_tellRopes_1 ?_
  refine q_goN (q_runV (As := []) (rest := []) hx hb hml hown hg (c_X4_makeEmpty l D cs hL2) v_X4_makeEmpty wl_X10_250 rfl rfl ⟨Nat.le_of_ble_eq_true rfl, Nat.le_of_ble_eq_true rfl⟩ hI hK 5 hL2.1 rfl hl.1 rfl rfl (Nat.le_of_ble_eq_true rfl) dX10_tellRopes_4 ⟨Nat.le_of_ble_eq_true rfl, Nat.le_of_ble_eq_true rfl⟩) hI (fun M H locs hp hI => ?_)
  obtain ⟨hn0, hF⟩ := hp
  generalize heg1 : s_X4_makeEmpty n = g1 at hn0 hR
  have hn := hn0
  have hL2 := hn
  have hL0 := hL0.fr hF (fun q h1 h2 hq => by omega)
  have hL1 := hL1.fr hF (fun q h1 h2 hq => by omega)
  have hS := hS.tr hF (fun q hq => by omega)
  refine lv_iconst (v := 0) hx hb dX10_tellRopes_7 (by decide) ?_
  refine lv_istore_n (lv' := [(1, .int 0), (0, .ref a)]) hx hb dX10_tellRopes_8 rfl hl (by decide) rfl (fun ls hl => ?_)
  have loop9 : ∀ (n9 : Nat) (x1h9 : Int32) (z2 : qNV), qmu q.1.2.2 x1h9 < n9 → s_X10_tellRopes_L9 f q n9 x1h9 z2 = R → ∀ (M : qM) (H : Heap) (locs : List Loc) (ls : Array Slot), qLX cs M a f → qLQ cs M (a + 1) q → qLN cs M (a + 164) z2 → qFr (qIn (a + 164) 2) M0 M → qI D M0 s.heap M N H locs → lv_has ls 2 [(0, .ref a), (1, .int x1h9)] →
      W p l e ({ frames := 5, cells := 0, slots := 0, locals := 115 } : Room) s m [Value.ref a].toArray below meth c H locs 0 0 (MQ below (qQ D M0 N (qMod N (some (.int R.1)) (fun M' => qLN cs M' (a + 164) R.2 ∧ qFr (qIn (a + 164) 2) M0 M'))) [Value.ref a].toArray s 0 0 (qA M0 N)) (F0 m 9 ls []) := by
    intro n9
    induction n9 with
    | zero => intro x1h9 z2 hm; exact absurd hm (Nat.not_lt_zero _)
    | succ n9 ih9 =>
      intro x1h9 z2 hm9 hR M H locs ls hL0 hL1 hL2 hS hI hl
      rw [s_X10_tellRopes_L9] at hR
      refine lv_iload_n hx hb dX10_tellRopes_9 rfl (lv_at hl 1 rfl) ?_
      refine lv_aload_n hx hb dX10_tellRopes_10 rfl (lv_at hl 0 rfl) ?_
      refine q_get hx hb hg in_X10 hown hK hI hL0 rfl 0 (by decide) (hg _ wf_X10_10) (fun _ h9 => h9) rfl dX10_tellRopes_11 ?_
      refine q_getN hx hb hg in_X5 hown hK hI hL1.1 rfl 0 (by decide) (hK.2 _ (List.mem_of_getElem? (i := 12) rfl)) (fun _ h9 => h9) rfl dX10_tellRopes_14 ?_
      refine q_getN hx hb hg in_X1 hown hK hI hL1.2.1.1 rfl 2 (by decide) (hK.2 _ (List.mem_of_getElem? (i := 4) rfl)) (fun _ h9 => h9) rfl dX10_tellRopes_17 ?_
      refine lv_icmp_ge (tgt := 68) hx hb dX10_tellRopes_20 (by decide) (fun c2 => ?_) (fun c2 => ?_)
      · rw [if_pos c2] at hR
        refine lv_aload_n hx hb dX10_tellRopes_68 rfl (lv_at hl 0 rfl) ?_
        refine q_get hx hb hg in_X10 hown hK hI hL0 rfl 5 (by decide) (hg _ wf_X10_39) (fun _ h9 => h9) rfl dX10_tellRopes_69 ?_
        refine q_getN hx hb hg in_X4 hown hK hI hL2.1 rfl 1 (by decide) (hK.2 _ (List.mem_of_getElem? (i := 26) rfl)) (fun _ h9 => h9) rfl dX10_tellRopes_72 ?_
        exact q_iret hx hb hret hlk hN hI (by subst hR; exact ⟨rfl, ⟨hL2, hS⟩, rfl⟩) dX10_tellRopes_75
      · rw [if_neg c2] at hR
        refine lv_aload_n hx hb dX10_tellRopes_23 rfl (lv_at hl 0 rfl) ?_
        refine q_get hx hb hg in_X10 hown hK hI hL0 rfl 0 (by decide) (hg _ wf_X10_10) (fun _ h9 => h9) rfl dX10_tellRopes_24 ?_
        refine q_getN hx hb hg in_X5 hown hK hI hL1.1 rfl 1 (by decide) (hK.2 _ (List.mem_of_getElem? (i := 13) rfl)) (fun _ h9 => h9) rfl dX10_tellRopes_27 ?_
        refine lv_iload_n hx hb dX10_tellRopes_30 rfl (lv_at hl 1 rfl) ?_
        refine q_goR (q_runV (As := [.int x1h9]) (rest := []) hx hb hml hown hg (c_X8_topOf l D cs hL1.2.2.1 x1h9) v_X8_topOf wl_X10_258 rfl rfl ⟨Nat.le_of_ble_eq_true rfl, Nat.le_of_ble_eq_true rfl⟩ hI hK 9 hL1.2.2.1.1 rfl hl.1 rfl rfl (Nat.le_of_ble_eq_true rfl) dX10_tellRopes_31 ⟨Nat.le_of_ble_eq_true rfl, Nat.le_of_ble_eq_true rfl⟩) hI (fun H locs hI => ?_)
        refine lv_iload_n hx hb dX10_tellRopes_34 rfl (lv_at hl 1 rfl) ?_
        refine lv_icmp_ne (tgt := 62) hx hb dX10_tellRopes_35 (by decide) (fun c3 => ?_) (fun c3 => ?_)
        · rw [if_neg c3] at hR
          refine lv_iinc (v := x1h9 + 1) (lv' := [(1, .int (x1h9 + 1)), (0, .ref a)]) hx hb dX10_tellRopes_62 hl (k := 1) rfl rfl (by decide) rfl (fun ls hl => ?_)
          refine lv_goto (tgt := 9) hx hb dX10_tellRopes_65 (by decide) ?_
          exact ih9 (x1h9 + 1) z2 (q_mu c2 hm9) hR _ _ _ _ hL0 hL1 hL2 hS hI (lv_sub hl [1, 0] rfl)
        · rw [if_pos c3] at hR
          refine lv_aload_n hx hb dX10_tellRopes_38 rfl (lv_at hl 0 rfl) ?_
          refine q_get hx hb hg in_X10 hown hK hI hL0 rfl 5 (by decide) (hg _ wf_X10_39) (fun _ h9 => h9) rfl dX10_tellRopes_39 ?_
          refine q_getN hx hb hg in_X4 hown hK hI hL2.1 rfl 1 (by decide) (hK.2 _ (List.mem_of_getElem? (i := 26) rfl)) (fun _ h9 => h9) rfl dX10_tellRopes_42 ?_
          refine lv_if_le (tgt := 57) hx hb dX10_tellRopes_45 (by decide) (fun c4 => ?_) (fun c4 => ?_)
          · rw [if_pos c4] at hR
            refine lv_aload_n hx hb dX10_tellRopes_57 rfl (lv_at hl 0 rfl) ?_
            refine lv_iload_n hx hb dX10_tellRopes_58 rfl (lv_at hl 1 rfl) ?_
            refine q_goN (q_runV (As := [.int x1h9]) (rest := []) hx hb hml hown hg (c_X10_writeRope l D cs hL0 hL1 hL2 x1h9) v_X10_writeRope wl_X10_265 rfl rfl ⟨Nat.le_of_ble_eq_true rfl, Nat.le_of_ble_eq_true rfl⟩ hI hK 10 hL0 rfl hl.1 rfl rfl (Nat.le_of_ble_eq_true rfl) dX10_tellRopes_59 ⟨Nat.le_of_ble_eq_true rfl, Nat.le_of_ble_eq_true rfl⟩) hI (fun M H locs hp hI => ?_)
            obtain ⟨hn2, hF⟩ := hp
            generalize heg5 : s_X10_writeRope f q z2 x1h9 = g5 at hn2 hR
            have hn := hn2
            have hL2 := hn
            have hL0 := hL0.fr hF (fun q h1 h2 hq => by omega)
            have hL1 := hL1.fr hF (fun q h1 h2 hq => by omega)
            have hS := hS.tr hF (fun q hq => by omega)
            refine lv_iinc (v := x1h9 + 1) (lv' := [(1, .int (x1h9 + 1)), (0, .ref a)]) hx hb dX10_tellRopes_62 hl (k := 1) rfl rfl (by decide) rfl (fun ls hl => ?_)
            refine lv_goto (tgt := 9) hx hb dX10_tellRopes_65 (by decide) ?_
            exact ih9 (x1h9 + 1) g5 (q_mu c2 hm9) hR _ _ _ _ hL0 hL1 hL2 hS hI (lv_sub hl [1, 0] rfl)
          · rw [if_neg c4] at hR
            refine lv_aload_n hx hb dX10_tellRopes_48 rfl (lv_at hl 0 rfl) ?_
            refine q_get hx hb hg in_X10 hown hK hI hL0 rfl 5 (by decide) (hg _ wf_X10_39) (fun _ h9 => h9) rfl dX10_tellRopes_49 ?_
            refine lv_bipush (v := 32) hx hb dX10_tellRopes_52 (by decide) ?_
            refine q_goN (q_runV (As := [.int 32]) (rest := []) hx hb hml hown hg (c_X4_addSign l D cs hL2 32) v_X4_addSign wl_X10_261 rfl rfl ⟨Nat.le_of_ble_eq_true rfl, Nat.le_of_ble_eq_true rfl⟩ hI hK 5 hL2.1 rfl hl.1 rfl rfl (Nat.le_of_ble_eq_true rfl) dX10_tellRopes_54 ⟨Nat.le_of_ble_eq_true rfl, Nat.le_of_ble_eq_true rfl⟩) hI (fun M H locs hp hI => ?_)
            obtain ⟨hn0, hF⟩ := hp
            generalize heg6 : s_X4_addSign z2 32 = g6 at hn0 hR
            have hn := hn0
            have hL2 := hn
            have hL0 := hL0.fr hF (fun q h1 h2 hq => by omega)
            have hL1 := hL1.fr hF (fun q h1 h2 hq => by omega)
            have hS := hS.tr hF (fun q hq => by omega)
            refine lv_aload_n hx hb dX10_tellRopes_57 rfl (lv_at hl 0 rfl) ?_
            refine lv_iload_n hx hb dX10_tellRopes_58 rfl (lv_at hl 1 rfl) ?_
            refine q_goN (q_runV (As := [.int x1h9]) (rest := []) hx hb hml hown hg (c_X10_writeRope l D cs hL0 hL1 hL2 x1h9) v_X10_writeRope wl_X10_265 rfl rfl ⟨Nat.le_of_ble_eq_true rfl, Nat.le_of_ble_eq_true rfl⟩ hI hK 10 hL0 rfl hl.1 rfl rfl (Nat.le_of_ble_eq_true rfl) dX10_tellRopes_59 ⟨Nat.le_of_ble_eq_true rfl, Nat.le_of_ble_eq_true rfl⟩) hI (fun M H locs hp hI => ?_)
            obtain ⟨hn2, hF⟩ := hp
            generalize heg7 : s_X10_writeRope f q g6 x1h9 = g7 at hn2 hR
            have hn := hn2
            have hL2 := hn
            have hL0 := hL0.fr hF (fun q h1 h2 hq => by omega)
            have hL1 := hL1.fr hF (fun q h1 h2 hq => by omega)
            have hS := hS.tr hF (fun q hq => by omega)
            refine lv_iinc (v := x1h9 + 1) (lv' := [(1, .int (x1h9 + 1)), (0, .ref a)]) hx hb dX10_tellRopes_62 hl (k := 1) rfl rfl (by decide) rfl (fun ls hl => ?_)
            refine lv_goto (tgt := 9) hx hb dX10_tellRopes_65 (by decide) ?_
            exact ih9 (x1h9 + 1) g7 (q_mu c2 hm9) hR _ _ _ _ hL0 hL1 hL2 hS hI (lv_sub hl [1, 0] rfl)
  exact loop9 _ 0 g1 (q_fuel _) hR _ _ _ _ hL0 hL1 hL2 hS hI (lv_sub hl [1, 0] rfl)
