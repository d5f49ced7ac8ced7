/-! the history: nine quarries, the place of the draft, how many can be undone -/
abbrev qHV : Type := (Nat → qQV) × Int32 × Int32
def qLH (cs : qC) (M : qM) (a : Nat) (v : qHV) : Prop := M a = some (.inr (3, [.ref (a + 1), .int v.2.1, .int v.2.2])) ∧ (∃ f : Nat → Option Nat, M (a + 1) = some (.inl (cs 1, 9, .inr (.inr (.inr (.inr f))))) ∧ ∀ j : Nat, j < 9 → f j = some (a + 2 + 13 * j)) ∧ ∀ j : Nat, j < 9 → qLQ cs M (a + 2 + 13 * j) (v.1 j)
theorem qLH.same {cs : qC} {M M' : qM} {a : Nat} {v : qHV} (h : qLH cs M a v) (hs : ∀ q : Nat, a ≤ q → q < a + 119 → M' q = M q) : qLH cs M' a v := by
  obtain ⟨h1, ⟨f, h2, h3⟩, h4⟩ := h
  exact ⟨(hs a (by omega) (by omega)).trans h1, ⟨f, (hs _ (by omega) (by omega)).trans h2, h3⟩, fun j hj => (h4 j hj).same (fun q q1 q2 => hs q (by omega) (by omega))⟩
theorem qLH.fr {cs : qC} {M M' : qM} {a : Nat} {v : qHV} {F : Nat → Prop} (h : qLH cs M a v) (hs : qFr F M M') (hd : ∀ q : Nat, a ≤ q → q < a + 119 → ¬ F q) : qLH cs M' a v := h.same (fun q h1 h2 => hs q (hd q h1 h2))
theorem qLH.i1 {cs : qC} {M : qM} {a : Nat} {v : qHV} (x : Int32) (h : qLH cs M a v) : qLH cs (qUp M a (.inr (3, [.ref (a + 1), .int x, .int v.2.2]))) a (v.1, x, v.2.2) := by
  obtain ⟨h1, ⟨f, h2, h3⟩, h4⟩ := h
  exact ⟨qUp_at _ _ _, ⟨f, (qUp_ne (by omega)).trans h2, h3⟩, fun j hj => (h4 j hj).same (fun q q1 q2 => qUp_ne (by omega))⟩
theorem qLH.i2 {cs : qC} {M : qM} {a : Nat} {v : qHV} (x : Int32) (h : qLH cs M a v) : qLH cs (qUp M a (.inr (3, [.ref (a + 1), .int v.2.1, .int x]))) a (v.1, v.2.1, x) := by
  obtain ⟨h1, ⟨f, h2, h3⟩, h4⟩ := h
  exact ⟨qUp_at _ _ _, ⟨f, (qUp_ne (by omega)).trans h2, h3⟩, fun j hj => (h4 j hj).same (fun q q1 q2 => qUp_ne (by omega))⟩
/-- one of the nine is another then -/
def qSlot (f : Nat → qQV) (j : Nat) (x : qQV) : Nat → qQV := fun i => if i = j then x else f i
theorem qLH.slot {cs : qC} {M M' : qM} {a j : Nat} {v : qHV} {x : qQV} (h : qLH cs M a v) (hj : j < 9) (hx : qLQ cs M' (a + 2 + 13 * j) x) (hs : qFr (qIn (a + 2 + 13 * j) 13) M M') : qLH cs M' a (qSlot v.1 j x, v.2) := by
  obtain ⟨h1, ⟨f, h2, h3⟩, h4⟩ := h
  refine ⟨(hs _ (by omega)).trans h1, ⟨f, (hs _ (by omega)).trans h2, h3⟩, fun i hi => ?_⟩
  show qLQ cs M' (a + 2 + 13 * i) (qSlot v.1 j x i)
  unfold qSlot
  by_cases hij : i = j
  · subst hij; rw [if_pos rfl]; exact hx
  · rw [if_neg hij]
    exact (h4 i hi).same (fun q q1 q2 => hs q (by omega))
def qOk (x : Int32) : Prop := 0 ≤ x ∧ x < 9
theorem qOk_lt {x : Int32} (h : qOk x) : x.toNatClampNeg < 9 := q_within (L := List.replicate 9 0) (by decide) h.1 h.2
theorem qOk_no {x : Int32} (h : x < 0 ∨ 9 ≤ x) : ¬ qOk x := by
  rintro ⟨h1, h2⟩
  rw [Int32.le_iff_toInt_le] at h1
  rw [Int32.lt_iff_toInt_lt] at h2
  rcases h with h | h
  · rw [Int32.lt_iff_toInt_lt] at h; omega
  · rw [Int32.le_iff_toInt_le] at h; omega
theorem s_X5_takeOver_eq (v u : qQV) : s_X5_takeOver v u = u := rfl
set_option maxHeartbeats 4000000 in
theorem c_X2_slotOfDraft (l : Launch) (D : va_G) (cs : qC) {M0 : qM} {N a : Nat} {v : qHV} (hL0 : qLH cs M0 a v) (w : Value) (hw1 : qOk v.2.1 → w = .ref (a + 2 + 13 * v.2.1.toNatClampNeg)) (hw2 : ¬ qOk v.2.1 → w = .null) :
    qMet l D cs yX2_slotOfDraft (qws yX2_slotOfDraft cX2_slotOfDraft 1 (some (.object "QuarryRopes$Quarry"))) ({ frames := 0, cells := 0, slots := 0, locals := 0 } : Room) M0 N [.ref a] (qRet M0 N w) 0 0 := by
  refine q_head (by decide) ?_ (Nat.le_of_ble_eq_true rfl)
  intro p e s m below meth c ls hx hb hret hlk hml hown hnm hg hK hN hI hl
  have hl : lv_has ls 1 [(0, .ref a)] := hl
  obtain ⟨f, hf1, hf2⟩ := hL0.2.1
  refine lv_aload_n hx hb dX2_slotOfDraft_0 rfl (lv_at hl 0 rfl) ?_
  refine q_get hx hb hg in_X2 hown hK hI hL0.1 rfl 1 (by decide) (hg _ wf_X2_30) (fun _ h9 => h9) rfl dX2_slotOfDraft_1 ?_
  refine lv_if_lt (tgt := 31) hx hb dX2_slotOfDraft_4 (by decide) (fun c1 => ?_) (fun c1 => ?_)
  · refine lv_null hx hb dX2_slotOfDraft_31 ?_
    exact q_aret hx hb hret (Or.inl rfl) hlk hN hI ⟨by rw [hw2 (qOk_no (Or.inl c1))], rfl, rfl⟩ dX2_slotOfDraft_32
  · refine lv_aload_n hx hb dX2_slotOfDraft_7 rfl (lv_at hl 0 rfl) ?_
    refine q_get hx hb hg in_X2 hown hK hI hL0.1 rfl 1 (by decide) (hg _ wf_X2_30) (fun _ h9 => h9) rfl dX2_slotOfDraft_8 ?_
    refine lv_aload_n hx hb dX2_slotOfDraft_11 rfl (lv_at hl 0 rfl) ?_
    refine q_get hx hb hg in_X2 hown hK hI hL0.1 rfl 0 (by decide) (hg _ wf_X2_13) (fun _ h9 => h9) rfl dX2_slotOfDraft_12 ?_
    refine q_alen hx hb hK hI 1 rfl hf1 (v := 9) rfl dX2_slotOfDraft_15 ?_
    refine lv_icmp_ge (tgt := 31) hx hb dX2_slotOfDraft_16 (by decide) (fun c2 => ?_) (fun c2 => ?_)
    · refine lv_null hx hb dX2_slotOfDraft_31 ?_
      exact q_aret hx hb hret (Or.inl rfl) hlk hN hI ⟨by rw [hw2 (qOk_no (Or.inr c2))], rfl, rfl⟩ dX2_slotOfDraft_32
    · have hok : qOk v.2.1 := ⟨q_nlt c1, q_nle c2⟩
      refine lv_aload_n hx hb dX2_slotOfDraft_19 rfl (lv_at hl 0 rfl) ?_
      refine q_get hx hb hg in_X2 hown hK hI hL0.1 rfl 0 (by decide) (hg _ wf_X2_13) (fun _ h9 => h9) rfl dX2_slotOfDraft_20 ?_
      refine lv_aload_n hx hb dX2_slotOfDraft_23 rfl (lv_at hl 0 rfl) ?_
      refine q_get hx hb hg in_X2 hown hK hI hL0.1 rfl 1 (by decide) (hg _ wf_X2_30) (fun _ h9 => h9) rfl dX2_slotOfDraft_24 ?_
      refine q_aald hx hb hK hI 1 rfl hf1 (q_vpin (L := List.replicate 9 0) (by decide) hok.1 hok.2) dX2_slotOfDraft_27 ?_
      rw [hf2 _ (qOk_lt hok)]
      refine lv_goto (tgt := 32) hx hb dX2_slotOfDraft_28 (by decide) ?_
      exact q_aret hx hb hret (Or.inr ⟨_, rfl⟩) hlk hN hI ⟨by rw [hw1 hok]; rfl, rfl, rfl⟩ dX2_slotOfDraft_32
def s_X2_draft (v : qHV) (u : qQV) : qHV := if 0 ≤ v.2.1 ∧ v.2.1 < 9 then (qSlot v.1 v.2.1.toNatClampNeg u, v.2) else v
def s_X2_dropDraft (v : qHV) (u : qQV) : qQV := if 0 ≤ v.2.1 ∧ v.2.1 < 9 then v.1 v.2.1.toNatClampNeg else u
set_option maxHeartbeats 4000000 in
theorem c_X2_draft (l : Launch) (D : va_G) (cs : qC) {M0 : qM} {N a b : Nat} {v : qHV} {u : qQV} (hL0 : qLH cs M0 a v) (hL1 : qLQ cs M0 b u) (hd0 : a + 119 ≤ b ∨ b + 13 ≤ a) :
    qMet l D cs yX2_draft (qws yX2_draft cX2_draft 3 none) ({ frames := 4, cells := 0, slots := 0, locals := 86 } : Room) M0 N [.ref a, .ref b] (qMod N none (fun M' => qLH cs M' a (s_X2_draft v u) ∧ qFr (qIn a 119) M0 M')) 0 0 := by
  refine q_head (by decide) ?_ (Nat.le_of_ble_eq_true rfl)
  intro p e s m below meth c ls hx hb hret hlk hml hown hnm hg hK hN hI hl
  have hl : lv_has ls 3 [(0, .ref a), (1, .ref b)] := hl
  refine lv_aload_n hx hb dX2_draft_0 rfl (lv_at hl 0 rfl) ?_
  by_cases hok : 0 ≤ v.2.1 ∧ v.2.1 < 9
  · have hj := qOk_lt hok
    refine q_goR (q_runV (As := []) (rest := []) hx hb hml hown hg (c_X2_slotOfDraft l D cs hL0 (.ref (a + 2 + 13 * v.2.1.toNatClampNeg)) (fun _ => rfl) (fun h => absurd hok h)) v_X2_slotOfDraft wl_X2_22 rfl rfl ⟨Nat.le_of_ble_eq_true rfl, Nat.le_of_ble_eq_true rfl⟩ hI hK 3 hL0.1 rfl hl.1 rfl rfl (Nat.le_of_ble_eq_true rfl) dX2_draft_1 ⟨Nat.le_of_ble_eq_true rfl, Nat.le_of_ble_eq_true rfl⟩) hI (fun H locs hI => ?_)
    generalize hje : v.2.1.toNatClampNeg = j at hj ⊢
    refine lv_astore_n (lv' := [(2, .ref (a + 2 + 13 * j)), (0, .ref a), (1, .ref b)]) hx hb dX2_draft_4 rfl hl (by decide) rfl (fun ls hl => ?_)
    refine lv_aload_n hx hb dX2_draft_5 rfl (lv_at hl 0 rfl) ?_
    refine lv_ifnull hx hb dX2_draft_6 ?_
    refine lv_aload_n hx hb dX2_draft_9 rfl (lv_at hl 0 rfl) ?_
    refine lv_aload_n hx hb dX2_draft_10 rfl (lv_at hl 2 rfl) ?_
    refine q_goN (q_runV (As := [.ref b]) (rest := []) hx hb hml hown hg (c_X5_takeOver l D cs (hL0.2.2 j hj) hL1 (by omega)) v_X5_takeOver wl_X2_26 rfl rfl ⟨Nat.le_of_ble_eq_true rfl, Nat.le_of_ble_eq_true rfl⟩ hI hK 6 (hL0.2.2 j hj).1 rfl hl.1 rfl rfl (Nat.le_of_ble_eq_true rfl) dX2_draft_11 ⟨Nat.le_of_ble_eq_true rfl, Nat.le_of_ble_eq_true rfl⟩) hI (fun M H locs hp hI => ?_)
    obtain ⟨hn, hF⟩ := hp
    rw [s_X5_takeOver_eq] at hn
    exact q_vret (st := []) hx hb hret hlk hN hI ⟨rfl, ⟨by rw [s_X2_draft, if_pos hok, hje]; exact hL0.slot hj hn hF, qFr.rf.tr hF (fun q hq => by omega)⟩, rfl⟩ dX2_draft_14
  · refine q_goR (q_runV (As := []) (rest := []) hx hb hml hown hg (c_X2_slotOfDraft l D cs hL0 .null (fun h => absurd h hok) (fun _ => rfl)) v_X2_slotOfDraft wl_X2_22 rfl rfl ⟨Nat.le_of_ble_eq_true rfl, Nat.le_of_ble_eq_true rfl⟩ hI hK 3 hL0.1 rfl hl.1 rfl rfl (Nat.le_of_ble_eq_true rfl) dX2_draft_1 ⟨Nat.le_of_ble_eq_true rfl, Nat.le_of_ble_eq_true rfl⟩) hI (fun H locs hI => ?_)
    refine lv_astore_nN (lv' := [(2, .null), (0, .ref a), (1, .ref b)]) hx hb dX2_draft_4 rfl hl (by decide) rfl (fun ls hl => ?_)
    refine lv_aload_nN hx hb dX2_draft_5 rfl (lv_at hl 0 rfl) ?_
    refine lv_ifnullN (tgt := 14) hx hb dX2_draft_6 (by decide) ?_
    exact q_vret (st := []) hx hb hret hlk hN hI ⟨rfl, ⟨by rw [s_X2_draft, if_neg hok]; exact hL0, qFr.rf⟩, rfl⟩ dX2_draft_14
set_option maxHeartbeats 4000000 in
theorem c_X2_dropDraft (l : Launch) (D : va_G) (cs : qC) {M0 : qM} {N a b : Nat} {v : qHV} {u : qQV} (hL0 : qLH cs M0 a v) (hL1 : qLQ cs M0 b u) (hd0 : a + 119 ≤ b ∨ b + 13 ≤ a) :
    qMet l D cs yX2_dropDraft (qws yX2_dropDraft cX2_dropDraft 3 none) ({ frames := 4, cells := 0, slots := 0, locals := 86 } : Room) M0 N [.ref a, .ref b] (qMod N none (fun M' => qLQ cs M' b (s_X2_dropDraft v u) ∧ qFr (qIn b 13) M0 M')) 0 0 := by
  refine q_head (by decide) ?_ (Nat.le_of_ble_eq_true rfl)
  intro p e s m below meth c ls hx hb hret hlk hml hown hnm hg hK hN hI hl
  have hl : lv_has ls 3 [(0, .ref a), (1, .ref b)] := hl
  refine lv_aload_n hx hb dX2_dropDraft_0 rfl (lv_at hl 0 rfl) ?_
  by_cases hok : 0 ≤ v.2.1 ∧ v.2.1 < 9
  · have hj := qOk_lt hok
    refine q_goR (q_runV (As := []) (rest := []) hx hb hml hown hg (c_X2_slotOfDraft l D cs hL0 (.ref (a + 2 + 13 * v.2.1.toNatClampNeg)) (fun _ => rfl) (fun h => absurd hok h)) v_X2_slotOfDraft wl_X2_22 rfl rfl ⟨Nat.le_of_ble_eq_true rfl, Nat.le_of_ble_eq_true rfl⟩ hI hK 3 hL0.1 rfl hl.1 rfl rfl (Nat.le_of_ble_eq_true rfl) dX2_dropDraft_1 ⟨Nat.le_of_ble_eq_true rfl, Nat.le_of_ble_eq_true rfl⟩) hI (fun H locs hI => ?_)
    generalize hje : v.2.1.toNatClampNeg = j at hj ⊢
    refine lv_astore_n (lv' := [(2, .ref (a + 2 + 13 * j)), (0, .ref a), (1, .ref b)]) hx hb dX2_dropDraft_4 rfl hl (by decide) rfl (fun ls hl => ?_)
    refine lv_aload_n hx hb dX2_dropDraft_5 rfl (lv_at hl 2 rfl) ?_
    refine lv_ifnull hx hb dX2_dropDraft_6 ?_
    refine lv_aload_n hx hb dX2_dropDraft_9 rfl (lv_at hl 0 rfl) ?_
    refine lv_ifnull hx hb dX2_dropDraft_10 ?_
    refine lv_aload_n hx hb dX2_dropDraft_13 rfl (lv_at hl 2 rfl) ?_
    refine lv_aload_n hx hb dX2_dropDraft_14 rfl (lv_at hl 0 rfl) ?_
    refine q_goN (q_runV (As := [.ref (a + 2 + 13 * j)]) (rest := []) hx hb hml hown hg (c_X5_takeOver l D cs hL1 (hL0.2.2 j hj) (by omega)) v_X5_takeOver wl_X2_26 rfl rfl ⟨Nat.le_of_ble_eq_true rfl, Nat.le_of_ble_eq_true rfl⟩ hI hK 6 hL1.1 rfl hl.1 rfl rfl (Nat.le_of_ble_eq_true rfl) dX2_dropDraft_15 ⟨Nat.le_of_ble_eq_true rfl, Nat.le_of_ble_eq_true rfl⟩) hI (fun M H locs hp hI => ?_)
    obtain ⟨hn, hF⟩ := hp
    rw [s_X5_takeOver_eq] at hn
    exact q_vret (st := []) hx hb hret hlk hN hI ⟨rfl, ⟨by rw [s_X2_dropDraft, if_pos hok, hje]; exact hn, hF⟩, rfl⟩ dX2_dropDraft_18
  · refine q_goR (q_runV (As := []) (rest := []) hx hb hml hown hg (c_X2_slotOfDraft l D cs hL0 .null (fun h => absurd h hok) (fun _ => rfl)) v_X2_slotOfDraft wl_X2_22 rfl rfl ⟨Nat.le_of_ble_eq_true rfl, Nat.le_of_ble_eq_true rfl⟩ hI hK 3 hL0.1 rfl hl.1 rfl rfl (Nat.le_of_ble_eq_true rfl) dX2_dropDraft_1 ⟨Nat.le_of_ble_eq_true rfl, Nat.le_of_ble_eq_true rfl⟩) hI (fun H locs hI => ?_)
    refine lv_astore_nN (lv' := [(2, .null), (0, .ref a), (1, .ref b)]) hx hb dX2_dropDraft_4 rfl hl (by decide) rfl (fun ls hl => ?_)
    refine lv_aload_n hx hb dX2_dropDraft_5 rfl (lv_at hl 2 rfl) ?_
    refine lv_ifnull hx hb dX2_dropDraft_6 ?_
    refine lv_aload_nN hx hb dX2_dropDraft_9 rfl (lv_at hl 0 rfl) ?_
    refine lv_ifnullN (tgt := 18) hx hb dX2_dropDraft_10 (by decide) ?_
    exact q_vret (st := []) hx hb hret hlk hN hI ⟨rfl, ⟨by rw [s_X2_dropDraft, if_neg hok]; exact hL1, qFr.rf⟩, rfl⟩ dX2_dropDraft_18
