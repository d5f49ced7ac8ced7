/-! makes is true, whatever the script; what it leaves -/
def Mk (cn : Nat) (q : qQV) (h : qHV) : Prop := Iv q ∧ q.1.2.2 = nI cn ∧ q.2.2.1.2.2.2.2 = 0 ∧ ∃ Q c, HI h Q c
def MkOk (cn : Nat) (r : qMk) : Prop := r.1 = true ∧ Iv r.2.1 ∧ r.2.1.1.2.2 = nI cn ∧ (0 : Int32) < r.2.1.2.2.1.2.2.2.2 ∧ ∃ Q c, HI r.2.2.1 Q c
theorem ge_or (x : Int32) : 0 ≤ x ∨ x < 0 := by
  rw [i_le, i_lt, i0]
  omega
theorem chg_hist {q q' : qQV} {Q : List qQV} {c : Nat} {x : Int32} {h' : qHV} (h : Chg q Q c x q' h') : ∃ Q c, HI h' Q c := by
  rcases ge_or x with h1 | h1
  · exact ⟨_, _, (h.2 h1).2⟩
  · exact ⟨_, _, (h.1 h1).2⟩
theorem chg_Iv {q q' : qQV} {Q : List qQV} {c : Nat} {x : Int32} {h' : qHV} (h : Chg q Q c x q' h') (hq : Iv q) : Iv q' := by
  rcases ge_or x with h1 | h1
  · exact (h.2 h1).1
  · rw [(h.1 h1).1]; exact hq
theorem settled_1 (f : Int32 × Int32) (h : qHV) (x : Int32) : (s_X10_settled f h x).1 = x := by
  unfold s_X10_settled
  split <;> rfl
theorem hang_q {q : qQV} (rs : qRV) {x y : Int32} (hx : s_X1_isThere q.1 x = true) (hy : s_X1_isThere q.1 y = true) : (0 ≤ (s_X5_hangOn q rs x y).1 ∨ (s_X5_hangOn q rs x y).1 = -3) ∧ (s_X5_hangOn q rs x y).2.1.1.2.2 = q.1.2.2 ∧ (s_X5_hangOn q rs x y).2.1.2.2.1 = q.2.2.1 := by
  unfold s_X5_hangOn
  rw [hx, if_neg qb1, hy, if_neg qb1]
  have e1 : (s_X5_expose (s_X5_expose q x) y).1 = q.1 := (exp_b _ _).trans (exp_b _ _)
  have e2 : (s_X5_expose (s_X5_expose q x) y).2.2.1 = q.2.2.1 := (exp_s _ _).trans (exp_s _ _)
  generalize s_X5_expose (s_X5_expose q x) y = E at e1 e2 ⊢
  split
  · split
    · exact ⟨Or.inr rfl, rfl, rfl⟩
    · refine ⟨Or.inl ?_, ?_, e2⟩
      · rw [i_le, i0]
        exact (depth_B _ _).1
      · show E.1.2.2 = _
        rw [e1]
  · exact ⟨Or.inr rfl, rfl, rfl⟩
theorem walk_s {q : qQV} {x : Int32} (h : s_X1_isThere q.1 x = true) : (s_X5_walkTo q x).2.2.2.1 = q.2.2.1 := by
  unfold s_X5_walkTo
  rw [h, if_neg qb1]
  have e := exp_s q x
  generalize s_X5_expose q x = E at e ⊢
  exact e
theorem mk_end {cn : Nat} (f : Int32 × Int32) {q : qQV} {h : qHV} (rs : qRV) {x : Int32} (hM : Mk cn q h) (hx : s_X1_isThere q.1 x = true) : MkOk cn (s_mk2e (s_X10_sledge f q h rs x)) := by
  obtain ⟨h1, h2, h3, Q, c, h4⟩ := hM
  have hc := chg_sledge f rs x h4 h1
  have hy := chg_hist hc
  have hz := chg_Iv hc h1
  have e : (s_X10_sledge f q h rs x).1 = 0 ∧ (s_X10_sledge f q h rs x).2.1.1.2.2 = nI cn ∧ (s_X10_sledge f q h rs x).2.1.2.2.1.2.2.2.2 = 1 := by
    unfold s_X10_sledge
    rw [settled_1]
    unfold s_X5_setSledge
    rw [hx, if_neg qb1, h3, if_pos (by decide)]
    exact ⟨h3, h2, by show q.2.2.1.2.2.2.2 + 1 = 1; rw [h3]; rfl⟩
  generalize s_X10_sledge f q h rs x = R at hy hz e ⊢
  unfold s_mk2e
  rw [if_pos e.1]
  exact ⟨rfl, hz, e.2.1, by show (0 : Int32) < R.2.1.2.2.1.2.2.2.2; rw [e.2.2]; decide, hy⟩
theorem mk_2b {cn : Nat} (hn : cn ≤ 16) (h4 : 4 ≤ cn) (f : Int32 × Int32) (w : Int32) (K : qQV → qHV → qRV → qMk) {q : qQV} {h : qHV} (rs : qRV) (hM : Mk cn q h) (hK : ∀ q h rs, Mk cn q h → MkOk cn (K q h rs)) : MkOk cn (s_mk2b f (nI cn) w K q h rs) := by
  obtain ⟨j, hj, ej⟩ := some_nI (w >>> (10 &&& 31)) cn (by omega) (by omega)
  unfold s_mk2b
  rw [ej]
  obtain ⟨h1, h2, h3, Q, c, h5⟩ := hM
  split
  · have ht := there_nI (j := j) h2 hn hj
    have hc := chg_walk f (nI j) h5 h1
    have hy := chg_hist hc
    have hz := chg_Iv hc h1
    have hp := walk_pos h1 ht
    have hs := walk_s ht
    have e : 0 ≤ (s_X10_walk f q h (nI j)).1 ∧ (s_X10_walk f q h (nI j)).2.1.1 = q.1 ∧ (s_X10_walk f q h (nI j)).2.1.2.2.1 = q.2.2.1 := by
      unfold s_X10_walk
      rw [settled_1]
      exact ⟨hp.1, hp.2.2, hs⟩
    generalize s_X10_walk f q h (nI j) = R at hy hz e ⊢
    rw [if_pos e.1]
    exact hK _ _ _ ⟨hz, by rw [e.2.1]; exact h2, by rw [e.2.2]; exact h3, hy⟩
  · exact hK _ _ _ ⟨h1, h2, h3, Q, c, h5⟩
theorem mk_2 {cn : Nat} (hn : cn ≤ 16) (h4 : 4 ≤ cn) (f : Int32 × Int32) (n : Nat) (g : Nat → Int32) : ∀ (m j : Nat) (q : qQV) (h : qHV) (rs : qRV), Mk cn q h → MkOk cn (s_makes2 f n g (nI cn) m j q h rs) := by
  intro m
  induction m with
  | zero =>
    intro j q h rs hM
    rw [s_makes2]
    obtain ⟨k, hk, ek⟩ := some_nI (scAt n g 30) cn (by omega) (by omega)
    rw [ek]
    exact mk_end f rs hM (there_nI (j := k) hM.2.1 hn hk)
  | succ m ih =>
    intro j q h rs hM
    rw [s_makes2]
    obtain ⟨k, hk, ek⟩ := some_nI (s_mkw n g j) cn (by omega) (by omega)
    obtain ⟨k2, hk2, ek2⟩ := some_nI (s_mkw n g j >>> (4 &&& 31)) cn (by omega) (by omega)
    rw [ek, ek2]
    have hK : ∀ q h rs, Mk cn q h → MkOk cn (s_mk2b f (nI cn) (s_mkw n g j) (fun q h rs => s_makes2 f n g (nI cn) m (j + 1) q h rs) q h rs) := fun q h rs hM => mk_2b hn h4 f _ _ rs hM (fun q h rs hM => ih (j + 1) q h rs hM)
    obtain ⟨h1, h2, h3, Q, c, h5⟩ := hM
    have hq := hang_q rs (there_nI (j := k) h2 hn hk) (there_nI (j := k2) h2 hn hk2)
    have hc := chg_hang f rs (nI k) (nI k2) h5 h1
    have hy := chg_hist hc
    have hz := chg_Iv hc h1
    have e : (0 ≤ (s_X10_hang f q h rs (nI k) (nI k2)).1 ∨ (s_X10_hang f q h rs (nI k) (nI k2)).1 = -3) ∧ (s_X10_hang f q h rs (nI k) (nI k2)).2.1.1.2.2 = q.1.2.2 ∧ (s_X10_hang f q h rs (nI k) (nI k2)).2.1.2.2.1 = q.2.2.1 := by
      unfold s_X10_hang
      rw [settled_1]
      exact hq
    generalize s_X10_hang f q h rs (nI k) (nI k2) = R at hy hz e ⊢
    have hM2 : Mk cn R.2.1 R.2.2.1 := ⟨hz, e.2.1.trans h2, by rw [e.2.2]; exact h3, hy⟩
    unfold s_mk2h
    split
    · exact hK _ _ _ hM2
    · rename_i h6
      rcases e.1 with h7 | h7
      · exact absurd h7 h6
      · rw [if_pos h7]
        exact hK _ _ _ hM2
theorem block_q {q : qQV} (rs : qRV) {j w : Nat} (hj : j < 16) (hc : q.1.2.2 = nI j) (hw : w ≤ 99) : s_X5_addBlock q rs (nI w) = (nI j, ((s_X1_add q.1 (nI w)).2, q.2.1, q.2.2.1, q.2.2.2.1, q.2.2.2.2.1, q.2.2.2.2.2), rs) := by
  unfold s_X5_addBlock
  rw [isW_T hw, if_neg qb1, if_pos (by rw [hc, i_lt, i16, nI_toInt (by omega)]; omega)]
  show (q.1.2.2, _, _) = _
  rw [hc]
theorem mk_1 {cn : Nat} (hn : cn ≤ 16) (h4 : 4 ≤ cn) (f : Int32 × Int32) (n : Nat) (g : Nat → Int32) : ∀ (m j : Nat) (q : qQV) (h : qHV) (rs : qRV), m + j = cn → Mk j q h → MkOk cn (s_makes1 f n g (nI cn) m j q h rs) := by
  intro m
  induction m with
  | zero =>
    intro j q h rs hj hM
    have hj' : j = cn := by omega
    rw [s_makes1, ← hj']
    rw [hj'] at hM ⊢
    exact mk_2 hn h4 f n g _ _ _ _ _ hM
  | succ m ih =>
    intro j q h rs hj hM
    rw [s_makes1_s]
    obtain ⟨w, hw, ew⟩ := some_nI (scAt n g (nI (j + 1))) 100 (by omega) (by omega)
    rw [show (100 : Int32) = nI 100 from rfl, ew]
    obtain ⟨h1, h2, h3, Q, c, h5⟩ := hM
    have hb := block_q (q := q) rs (j := j) (w := w) (by omega) h2 (by omega)
    have hc := chg_block f rs (nI w) h5 h1
    have hy := chg_hist hc
    have hz := chg_Iv hc h1
    have e : (s_X10_block f q h rs (nI w)).1 = nI j ∧ (s_X10_block f q h rs (nI w)).2.1.1.2.2 = nI (j + 1) ∧ (s_X10_block f q h rs (nI w)).2.1.2.2.1 = q.2.2.1 := by
      unfold s_X10_block
      rw [settled_1, hb]
      exact ⟨rfl, by show q.1.2.2 + 1 = _; rw [h2]; exact (nI_succ j).symm, rfl⟩
    generalize s_X10_block f q h rs (nI w) = R at hy hz e ⊢
    rw [if_pos e.1]
    exact ih (j + 1) _ _ _ (by omega) ⟨hz, e.2.1, by rw [e.2.2]; exact h3, hy⟩
theorem HI_0 : HI qH0 [] 0 := ⟨0, by decide, by decide, fun k hk => absurd hk (Nat.not_lt_zero k), rfl, rfl⟩
theorem Iv_0 : Iv qQ0 := by
  unfold Iv bOk sOk iB
  decide
theorem makes_ok (f : Int32 × Int32) (n : Nat) (g : Nat → Int32) (rs : qRV) : ∃ cn, 4 ≤ cn ∧ cn ≤ 16 ∧ MkOk cn (s_L_makes f n g qQ0 qH0 rs) := by
  obtain ⟨cn, h1, h2, h3, h4⟩ := s_mkc_nI n g
  have h5 : 4 ≤ cn := by
    have h6 := (s_count (scAt n g 0)).1
    have h7 : ((4 : Int32) + s_some (scAt n g 0) 13).toInt = cn := by
      show (s_mkc n g).toInt = cn
      rw [h2, nI_toInt (by omega)]
    omega
  refine ⟨cn, h5, h1, ?_⟩
  unfold s_L_makes
  rw [h3, h2]
  exact mk_1 h1 h5 f n g cn 0 _ _ rs rfl ⟨Iv_0, rfl, rfl, [], 0, HI_0⟩
