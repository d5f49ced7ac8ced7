/-! OF THE SPEC FUNCTIONS: what refused asks for -/
theorem rank_L (v : qBV) (b m : Nat) (hm : m ≤ 16) (hb : b < m) (hc : v.2.2 = nI m) : ∀ (n k s : Nat), n + k = m + 1 → k ≤ m → s ≤ k → (b < k → s + 1 ≤ k) → ∃ r, r < m ∧ s_X1_rankOf_L4 v (nI b) n (nI s) (nI k) = nI r := by
  intro n
  induction n with
  | zero => intro k s h1 h2; omega
  | succ n ih =>
    intro k s h1 h2 h3 h4
    rw [s_X1_rankOf_L4, hc]
    split
    · rename_i h5
      rw [i_le, nI_toInt (by omega), nI_toInt (by omega)] at h5
      exact ⟨s, by omega, rfl⟩
    · rename_i h5
      rw [i_le, nI_toInt (by omega), nI_toInt (by omega)] at h5
      rw [show nI k + 1 = nI (k + 1) from (nI_succ k).symm]
      split
      · rw [Int32.add_zero]
        exact ih (k + 1) s (by omega) (by omega) (by omega) (fun h => by
          by_cases hk : b < k
          · have := h4 hk; omega
          · omega)
      · rename_i h6
        rw [show nI s + 1 = nI (s + 1) from (nI_succ s).symm]
        have hkb : k ≠ b := by
          intro hkb
          subst hkb
          apply h6
          have : s_X1_isBefore v (nI k) (nI k) = false := by
            unfold s_X1_isBefore
            rw [if_pos rfl, if_pos rfl, if_pos (Int32.le_refl _)]
          rw [this]
          rfl
        exact ih (k + 1) (s + 1) (by omega) (by omega) (by omega) (fun h => by
          have := h4 (by omega)
          omega)
theorem rank_B {v : qBV} (b m : Nat) (hm : m ≤ 16) (hb : b < m) (hc : v.2.2 = nI m) : ∃ r, r < m ∧ s_X1_rankOf v (nI b) = nI r := by
  unfold s_X1_rankOf
  exact rank_L v b m hm hb hc _ 0 0 (by rw [hc, nI_toInt (by omega)]; omega) (by omega) (by omega) (by omega)
theorem ranked_L (v : qBV) (m : Nat) (x : Int32) (hm : m ≤ 16) (hc : v.2.2 = nI m) (hx : ∀ r, r < m → nI r ≠ x) : ∀ (n k : Nat), n + k = m + 1 → k ≤ m → s_X1_blockOfRank_L2 v x n (nI k) = -1 := by
  intro n
  induction n with
  | zero => intro k h1 h2; omega
  | succ n ih =>
    intro k h1 h2
    rw [s_X1_blockOfRank_L2, hc]
    split
    · rfl
    · rename_i h5
      rw [i_le, nI_toInt (by omega), nI_toInt (by omega)] at h5
      obtain ⟨r, hr, er⟩ := rank_B (v := v) k m hm (by omega) hc
      rw [er, if_neg (hx r hr), show nI k + 1 = nI (k + 1) from (nI_succ k).symm]
      exact ih (k + 1) (by omega) (by omega)
theorem e_ranked (f : Int32 × Int32) {q : qQV} {m : Nat} (hm : m ≤ 16) (hc : q.1.2.2 = nI m) (x : Int32) (hx : ∀ r, r < m → nI r ≠ x) : s_X10_ranked f q x = -1 := by
  unfold s_X10_ranked s_X1_blockOfRank
  exact ranked_L q.1 m x hm hc hx _ 0 (by rw [hc, nI_toInt (by omega)]; omega) (by omega)
section QE
variable {f : Int32 × Int32} {q qt : qQV} {h : qHV} {i : qIV} {rs : qRV} {n : qNV} {x y : Int32}
theorem qb0 : qbi false = 0 := rfl
theorem qb1 : ¬ qbi true = 0 := by decide
theorem e_block (hw : s_X5_isWeight x = false) : s_X10_block f q h rs x = (-2, q, s_X2_draft h q, rs) := by
  unfold s_X10_block s_X5_addBlock
  rw [hw, if_pos qb0]
  rfl
theorem e_hang1 (h1 : s_X1_isThere q.1 x = false) : s_X10_hang f q h rs x y = (-1, q, s_X2_draft h q, rs) := by
  unfold s_X10_hang s_X5_hangOn
  rw [h1, if_pos qb0]
  rfl
theorem e_hang2 (h1 : s_X1_isThere q.1 x = true) (h2 : s_X1_isThere q.1 y = false) : s_X10_hang f q h rs x y = (-1, q, s_X2_draft h q, rs) := by
  unfold s_X10_hang s_X5_hangOn
  rw [h1, if_neg qb1, h2, if_pos qb0]
  rfl
theorem e_hang3 (h1 : s_X1_isThere q.1 x = true) (h3 : s_X1_holderOf q.1 x < 0) : s_X10_hang f q h rs x x = (-3, q, s_X2_draft h q, (3, x, 0, 0)) := by
  have hr : s_X1_rootByHolders q.1 x = x := by
    unfold s_X1_rootByHolders s_X10_lastAlong
    rw [fuel16, s_X10_lastAlong_L4, if_neg (by decide), if_pos (show rowAt q.1.2.1 x < 0 from h3)]
  unfold s_X10_hang s_X5_hangOn
  rw [h1, if_neg qb1, if_neg qb1, if_pos h3, if_pos hr]
  rfl
theorem e_hang4 (h1 : s_X1_isThere q.1 x = true) (h2 : s_X1_isThere q.1 y = true) (h3 : ¬ s_X1_holderOf q.1 x < 0) : s_X10_hang f q h rs x y = (-3, q, s_X2_draft h q, (2, s_X1_holderOf q.1 x, 0, 0)) := by
  unfold s_X10_hang s_X5_hangOn
  rw [h1, if_neg qb1, h2, if_neg qb1, if_neg h3]
  rfl
theorem e_cut1 (h1 : s_X1_isThere q.1 x = false) : s_X10_cut f q h rs x = (-1, q, s_X2_draft h q, rs) := by
  unfold s_X10_cut s_X5_cutOff
  rw [h1, if_pos qb0]
  rfl
theorem e_cut2 (h1 : s_X1_isThere q.1 x = true) (h3 : s_X1_holderOf q.1 x < 0) : s_X10_cut f q h rs x = (-3, q, s_X2_draft h q, (4, x, 0, 0)) := by
  unfold s_X10_cut s_X5_cutOff
  rw [h1, if_neg qb1, if_neg (show ¬ 0 ≤ s_X1_holderOf q.1 x by rw [i_le]; rw [i_lt] at h3; omega)]
  rfl
theorem e_walk1 (h1 : s_X1_isThere q.1 x = false) : s_X10_walk f q h x = (-1, q, s_X2_draft h q) := by
  unfold s_X10_walk s_X5_walkTo
  rw [h1, if_pos qb0]
  rfl
theorem e_up1 (h1 : s_X1_isThere q.1 x = false) : s_X10_up f q h x = (-1, q, s_X2_draft h q) := by
  unfold s_X10_up s_X5_goUp
  rw [h1, if_pos qb0]
  rfl
theorem e_weigh1 (h1 : s_X1_isThere q.1 x = false) : s_X10_weigh f q h rs x y = (-1, q, s_X2_draft h q, rs) := by
  unfold s_X10_weigh s_X5_changeWeight
  rw [h1, if_pos qb0]
  rfl
theorem e_weigh2 (h1 : s_X1_isThere q.1 x = true) (hw : s_X5_isWeight y = false) : s_X10_weigh f q h rs x y = (-2, q, s_X2_draft h q, rs) := by
  unfold s_X10_weigh s_X5_changeWeight
  rw [h1, if_neg qb1, hw, if_pos qb0]
  rfl
theorem cw3 (h1 : s_X1_isThere q.1 x = true) (hw : s_X5_isWeight y = true) (h3 : s_X1_weightOf q.1 x = y) : s_X5_changeWeight q rs x y = (-3, q, (5, y, 0, 0)) := by
  unfold s_X5_changeWeight
  rw [h1, if_neg qb1, hw, if_neg qb1, if_pos h3]
  rfl
theorem e_weigh3 (h1 : s_X1_isThere q.1 x = true) (hw : s_X5_isWeight y = true) (h3 : s_X1_weightOf q.1 x = y) : s_X10_weigh f q h rs x y = (-3, q, s_X2_draft h q, (5, y, 0, 0)) := by
  unfold s_X10_weigh
  rw [cw3 h1 hw h3]
  rfl
theorem e_sledge1 (h1 : s_X1_isThere q.1 x = false) : s_X10_sledge f q h rs x = (-1, q, s_X2_draft h q, rs) := by
  unfold s_X10_sledge s_X5_setSledge
  rw [h1, if_pos qb0]
  rfl
theorem isW_T {w : Nat} (hw : w ≤ 99) : s_X5_isWeight (nI w) = true := by
  unfold s_X5_isWeight
  rw [if_neg (by rw [i_lt, i0, nI_toInt (by omega)]; omega), if_neg (by rw [i_lt, i99, nI_toInt (by omega)]; omega)]
theorem e_blockOf1 (h1 : s_X1_isThere q.1 x = false) : s_X10_blockOf f q x y = -1 := by
  unfold s_X10_blockOf
  rw [h1, if_pos qb0]
theorem e_blockOf2 (h1 : s_X1_isThere q.1 x = true) (hy : y = 7 ∨ y = -1) : s_X10_blockOf f q x y = -2 := by
  unfold s_X10_blockOf
  rw [h1, if_neg qb1]
  rcases hy with rfl | rfl <;> rfl
theorem e_blockOf3 (h1 : s_X1_isThere q.1 x = true) : s_X10_blockOf f q x 0 = s_X1_weightOf q.1 x := by
  unfold s_X10_blockOf
  rw [h1, if_neg qb1, if_pos rfl]
theorem e_blockOf4 (h1 : s_X1_isThere q.1 x = true) : s_X10_blockOf f q x 1 = s_X10_orNothing (s_X1_holderOf q.1 x) := by
  unfold s_X10_blockOf
  rw [h1, if_neg qb1, if_neg (by decide), if_pos rfl]
theorem e_treeOf1 (h1 : s_X1_isThere q.1 x = false) : s_X10_treeOf f q x y = -1 := by
  unfold s_X10_treeOf
  rw [h1, if_pos qb0]
theorem e_treeOf2 (h1 : s_X1_isThere q.1 x = true) (hy : y = 7 ∨ y = -1) : s_X10_treeOf f q x y = -2 := by
  unfold s_X10_treeOf
  rw [h1, if_neg qb1]
  rcases hy with rfl | rfl <;> rfl
theorem e_ropeOf1 (h1 : s_X1_isThere q.1 x = false) : s_X10_ropeOf f q x y = -1 := by
  unfold s_X10_ropeOf
  rw [h1, if_pos qb0]
theorem e_ropeOf2 (h1 : s_X1_isThere q.1 x = true) (hy : y = 16 ∨ y = -1) : s_X10_ropeOf f q x y = -1 := by
  unfold s_X10_ropeOf s_X8_blockAt
  rw [h1, if_neg qb1]
  rcases hy with rfl | rfl <;> rfl
theorem e_placeOf (h1 : s_X1_isThere q.1 x = false) : s_X10_placeOf f q x = -1 := by
  unfold s_X10_placeOf
  rw [h1, if_pos qb0]
theorem e_ropesAbove (h1 : s_X1_isThere q.1 x = false) : s_X10_ropesAbove f q x = -1 := by
  unfold s_X10_ropesAbove
  rw [h1, if_pos qb0]
theorem e_turnsFor (h1 : s_X1_isThere q.1 x = false) : s_X10_turnsFor f q qt x = (-1, qt) := by
  unfold s_X10_turnsFor
  rw [h1, if_pos qb0]
theorem e_sum (h1 : s_X1_isThere q.1 x = false) : s_X10_sum f q x = -1 := by
  unfold s_X10_sum
  rw [h1, if_pos qb0]
theorem e_sumAgain (h1 : s_X1_isThere q.1 x = false) : s_X10_sumAgain f q x = -1 := by
  unfold s_X10_sumAgain
  rw [h1, if_pos qb0]
theorem e_root (h1 : s_X1_isThere q.1 x = false) : s_X10_root f q x = -1 := by
  unfold s_X10_root
  rw [h1, if_pos qb0]
theorem e_rootAgain (h1 : s_X1_isThere q.1 x = false) : s_X10_rootAgain f q x = -1 := by
  unfold s_X10_rootAgain
  rw [h1, if_pos qb0]
theorem e_joint1 (h1 : s_X1_isThere q.1 x = false) : s_X10_joint f q x y = -1 := by
  unfold s_X10_joint
  rw [h1, if_pos qb0]
theorem e_joint2 (h1 : s_X1_isThere q.1 x = true) (h2 : s_X1_isThere q.1 y = false) : s_X10_joint f q x y = -1 := by
  unfold s_X10_joint
  rw [h1, if_neg qb1, h2, if_pos qb0]
theorem e_jointAgain2 (h1 : s_X1_isThere q.1 x = true) (h2 : s_X1_isThere q.1 y = false) : s_X10_jointAgain f q x y = -1 := by
  unfold s_X10_jointAgain
  rw [h1, if_neg qb1, h2, if_pos qb0]
theorem e_sledgeOf1 (h1 : x < 0 ∨ q.2.2.1.2.2.2.2 ≤ x) : s_X10_sledgeOf f q x y = -1 := by
  unfold s_X10_sledgeOf s_X7_tell
  split
  · rfl
  · rename_i h2
    rw [if_neg]
    rcases h1 with h1 | h1
    · exact absurd h1 h2
    · rw [i_lt]
      rw [i_le] at h1
      omega
theorem e_sledgeOf2 (h1 : (0 : Int32) < q.2.2.1.2.2.2.2) (hy : y = 4 ∨ y = -1) : s_X10_sledgeOf f q 0 y = -2 := by
  unfold s_X10_sledgeOf s_X7_tell
  rw [if_neg (by decide), if_pos h1]
  rcases hy with rfl | rfl <;> rfl
theorem e_tellTree (h1 : s_X1_isThere q.1 x = false) : s_X10_tellTree f q n x = (-1, n) := by
  unfold s_X10_tellTree
  rw [h1, if_pos qb0]
theorem e_written (hn : n.1.length = 54) (hx : x = 200 ∨ x = -1) : s_X10_written f n x = -1 := by
  unfold s_X10_written s_X4_codeAt
  split
  · rfl
  · rcases hx with rfl | rfl
    · exact rowAt_out (by rw [hn]; decide)
    · exact rowAt_neg (by decide)
theorem e_account (hx : x = 13 ∨ x = -1) : s_X10_account f q h i x = -2 := by
  unfold s_X10_account
  rcases hx with rfl | rfl <;> rfl
theorem e_reason (hx : x = 2 ∨ x = -1) : s_X10_reason f rs x y = -2 := by
  unfold s_X10_reason s_X6_tell
  rcases hx with rfl | rfl <;> rfl
theorem e_append (hx : x = 31 ∨ x = 127) : s_X10_append f i x = (-2, i) := by
  unfold s_X10_append s_X3_add
  rcases hx with rfl | rfl <;> rfl
theorem draft_id {Q : List qQV} {c : Nat} (hH : HI h Q c) : s_X2_draft (s_X2_draft h q) q = s_X2_draft h q := by
  obtain ⟨nx, h1, h2, h3, h4, h5⟩ := hH
  rw [draft_eq h1 h4, draft_eq (h := (qSlot h.1 nx q, h.2)) (nx := nx) h1 h4]
  congr 1
  funext j
  show qSlot (qSlot h.1 nx q) nx q j = qSlot h.1 nx q j
  unfold qSlot
  split <;> rfl
end QE
/-! texts whose signs and commands are known -/
def apI (L : List Int32) : Nat → Nat → qIV → qIV
  | 0, _, i => i
  | n + 1, j, i => apI L n (j + 1) (s_X3_add i (qch (L.getD j 0))).2
def apOk (L : List Int32) : Nat → Nat → qIV → Bool
  | 0, _, _ => true
  | n + 1, j, i => decide ((s_X3_add i (qch (L.getD j 0))).1 = nI (j + 1)) && apOk L n (j + 1) (s_X3_add i (qch (L.getD j 0))).2
theorem reads_ap (L : List Int32) (f : Int32 × Int32) (q : qQV) (h : qHV) (rs : qRV) : ∀ (n j : Nat) (i : qIV), apOk L n j i = true → s_reads_L L f q h rs n j i = s_X10_read f q h (apI L n j i) rs := by
  intro n
  induction n with
  | zero => intro j i _; rfl
  | succ n ih =>
    intro j i hk
    rw [apOk, Bool.and_eq_true] at hk
    rw [s_reads_L, if_pos (show (s_X10_append f i (qch (L.getD j 0))).1 = nI (j + 1) from of_decide_eq_true hk.1)]
    exact ih (j + 1) _ hk.2
theorem reads_eq {L : List Int32} {i : qIV} (f : Int32 × Int32) (q : qQV) (h : qHV) (rs : qRV) (hk : apOk L L.length 0 i = true) : s_L_reads L f q h i rs = s_X10_read f q h (apI L L.length 0 i) rs := by
  unfold s_L_reads
  exact reads_ap L f q h rs _ _ _ hk
/-- the input behind a text -/
def iAfter (L : List Int32) (i : qIV) : qIV := s_X3_makeEmpty (s_X3_takeApart (apI L L.length 0 i)).2
def iFs (v : qIV) (x : Int32) : Int32 := rowAt v.2.2.1 x
def iSs (v : qIV) (x : Int32) : Int32 := rowAt v.2.2.2.1 x
def iA1 : qIV := iAfter (jCt 4) qI0
def iA2 : qIV := iAfter (jCt 5) iA1
theorem t1_ok : apOk (jCt 4) (jCt 4).length 0 qI0 = true ∧ (s_X3_takeApart (apI (jCt 4) (jCt 4).length 0 qI0)).1 = false ∧ iA1.2.2.2.2.2.2 = 0 := by decide +kernel
theorem t2_ok : apOk (jCt 5) (jCt 5).length 0 iA1 = true ∧ (s_X3_takeApart (apI (jCt 5) (jCt 5).length 0 iA1)).1 = true ∧ cm iA2 = 3 ∧ s_X3_wordOf iA2 0 = 3 ∧ s_X3_wordOf iA2 1 = 4 ∧ s_X3_wordOf iA2 2 = 3 ∧ iFs iA2 0 = 0 ∧ iFs iA2 1 = 1 ∧ iFs iA2 2 = 16 := by decide +kernel
def L3 (w : Nat) : List Int32 := ([] ++ jCt 6) ++ ds w
def iA3 (w : Nat) : qIV := iAfter (L3 w) iA2
theorem t3_ok : ∀ w : Fin 100, apOk (L3 w.1) (L3 w.1).length 0 iA2 = true ∧ (s_X3_takeApart (apI (L3 w.1) (L3 w.1).length 0 iA2)).1 = true ∧ cm (iA3 w.1) = 2 ∧ s_X3_wordOf (iA3 w.1) 0 = 3 ∧ s_X3_wordOf (iA3 w.1) 1 = 5 ∧ iFs (iA3 w.1) 0 = 3 ∧ iFs (iA3 w.1) 1 = 1 ∧ iSs (iA3 w.1) 1 = nI w.1 := by decide +kernel
theorem read_1 (f : Int32 × Int32) (q : qQV) (h : qHV) (rs : qRV) : s_L_reads (jCt 4) f q h qI0 rs = (-2, (0, f.2), q, h, iA1, rs) := by
  rw [reads_eq f q h rs t1_ok.1]
  unfold s_X10_read s_X10_read1
  rw [t1_ok.2.1, if_pos qb0]
  show (-2, (iA1.2.2.2.2.2.2, f.2), q, h, iA1, rs) = _
  rw [t1_ok.2.2]
theorem co_walk {q : qQV} {i : qIV} {rs : qRV} {x : Int32} (hw : s_X3_wordOf i x = 3) : s_X10_carryOut q i rs x = ((s_X5_walkTo q (rowAt i.2.2.1 x)).1, (s_X5_walkTo q (rowAt i.2.2.1 x)).2, rs) := by
  unfold s_X10_carryOut
  rw [hw, if_neg (by decide)]
  rfl
theorem co_up {q : qQV} {i : qIV} {rs : qRV} {x : Int32} (hw : s_X3_wordOf i x = 4) : s_X10_carryOut q i rs x = ((s_X5_goUp q (rowAt i.2.2.1 x)).1, (s_X5_goUp q (rowAt i.2.2.1 x)).2, rs) := by
  unfold s_X10_carryOut
  rw [hw, if_neg (by decide)]
  rfl
theorem co_weigh {q : qQV} {i : qIV} {rs : qRV} {x : Int32} (hw : s_X3_wordOf i x = 5) : s_X10_carryOut q i rs x = s_X5_changeWeight q rs (rowAt i.2.2.1 x) (rowAt i.2.2.2.1 x) := by
  unfold s_X10_carryOut
  rw [hw, if_neg (by decide)]
  rfl
theorem walk_pos {q : qQV} (hq : Iv q) {x : Int32} (h : s_X1_isThere q.1 x = true) : 0 ≤ (s_X5_walkTo q x).1 ∧ Iv (s_X5_walkTo q x).2 ∧ (s_X5_walkTo q x).2.1 = q.1 := by
  have hy := there_B (v := q.1) (p := x) (by rw [h]; exact qb1)
  have hc := hq.1.2.2
  unfold s_X5_walkTo
  rw [h, if_neg qb1]
  have hv := exp_Iv x hq
  have hb := exp_b q x
  generalize s_X5_expose q x = E at hv hb ⊢
  refine ⟨?_, hv, hb⟩
  rw [i_le, i0]
  exact (sumB hv.1 x ⟨by omega, by omega⟩).1
theorem up_pos {q : qQV} (hq : Iv q) {x : Int32} (h : s_X1_isThere q.1 x = true) : 0 ≤ (s_X5_goUp q x).1 ∧ Iv (s_X5_goUp q x).2 ∧ (s_X5_goUp q x).2.1 = q.1 := by
  have hy := there_B (v := q.1) (p := x) (by rw [h]; exact qb1)
  unfold s_X5_goUp
  rw [h, if_neg qb1]
  have hv := exp_Iv x hq
  have hb := exp_b q x
  generalize s_X5_expose q x = E at hv hb ⊢
  refine ⟨?_, hv, hb⟩
  rw [i_le, i0]
  exact root_B _ _ hy.1
theorem walk_no {q : qQV} {x : Int32} (h : s_X1_isThere q.1 x = false) : s_X5_walkTo q x = (-1, q) := by
  unfold s_X5_walkTo
  rw [h, if_pos qb0]
theorem there_nI {q : qQV} {cn : Nat} (hc : q.1.2.2 = nI cn) (hn : cn ≤ 16) {j : Nat} (hj : j < cn) : s_X1_isThere q.1 (nI j) = true := there_T (by rw [nI_toInt (by omega)]; omega) (by rw [hc, nI_toInt (by omega), nI_toInt (by omega)]; omega)
theorem there_no {q : qQV} {cn : Nat} (hc : q.1.2.2 = nI cn) (hn : cn ≤ 16) {j : Nat} (hj : cn ≤ j) (h31 : j < 2 ^ 31) : s_X1_isThere q.1 (nI j) = false := there_F (Or.inr (by rw [hc, nI_toInt (by omega), nI_toInt (by omega)]; omega))
theorem read_2 (f : Int32 × Int32) {q : qQV} {h : qHV} (rs : qRV) {cn c : Nat} {Q : List qQV} (hq : Iv q) (hc : q.1.2.2 = nI cn) (h4 : 4 ≤ cn) (hn : cn ≤ 16) (hH : HI h Q c) : s_L_reads (jCt 5) f q h iA1 rs = (-3, f, q, s_X2_draft h q, iA2, (8, 2, 0, 0)) := by
  obtain ⟨k1, k2, k3, w0, w1, w2, r0, r1, r2⟩ := t2_ok
  rw [reads_eq f q h rs k1]
  unfold s_X10_read s_X10_read1
  rw [k2, if_neg qb1]
  show s_X10_read_L f (s_X2_draft h q) iA2 ((cm iA2).toInt.toNat + 1) 0 q rs = _
  generalize iA2 = I at k3 w0 w1 w2 r0 r1 r2 ⊢
  replace r0 : rowAt I.2.2.1 0 = 0 := r0
  replace r1 : rowAt I.2.2.1 1 = 1 := r1
  replace r2 : rowAt I.2.2.1 2 = 16 := r2
  rw [k3, show (3 : Int32).toInt.toNat + 1 = 4 by decide]
  replace k3 : I.2.2.2.2.2.1 = 3 := k3
  have hd := hH.dropped q
  rw [s_X10_read_L, if_neg (show ¬ I.2.2.2.2.2.1 ≤ 0 by rw [k3]; decide), co_walk w0, r0]
  have hw := walk_pos hq (x := 0) (there_nI (j := 0) hc hn (by omega))
  generalize s_X5_walkTo q 0 = A at hw ⊢
  rw [if_pos hw.1]
  show s_X10_read_L f (s_X2_draft h q) I 3 (0 + 1) A.2 rs = _
  rw [show (0 : Int32) + 1 = 1 from rfl, s_X10_read_L, if_neg (show ¬ I.2.2.2.2.2.1 ≤ 1 by rw [k3]; decide), co_up w1, r1]
  have hc1 : A.2.1.2.2 = nI cn := by rw [hw.2.2]; exact hc
  have hu := up_pos hw.2.1 (x := 1) (there_nI (j := 1) hc1 hn (by omega))
  generalize s_X5_goUp A.2 1 = B at hu ⊢
  rw [if_pos hu.1]
  show s_X10_read_L f (s_X2_draft h q) I 2 (1 + 1) B.2 rs = _
  have hc2 : B.2.1.2.2 = nI cn := by rw [hu.2.2]; exact hc1
  rw [show (1 : Int32) + 1 = 2 from rfl, s_X10_read_L, if_neg (show ¬ I.2.2.2.2.2.1 ≤ 2 by rw [k3]; decide), co_walk w2, r2, walk_no (x := 16) (there_no (j := 16) hc2 hn hn (by decide))]
  rw [if_neg (show ¬ (0 : Int32) ≤ -1 by decide), if_neg (show ¬ (-1 : Int32) = -3 by decide), hd]
  rfl
theorem read_3 (f : Int32 × Int32) {q : qQV} {h : qHV} (rs : qRV) {cn c w : Nat} {Q : List qQV} (hq : Iv q) (hc : q.1.2.2 = nI cn) (h4 : 4 ≤ cn) (hn : cn ≤ 16) (hH : HI h Q c) (hw : w ≤ 99) (hww : s_X1_weightOf q.1 1 = nI w) : s_L_reads (L3 w) f q h iA2 rs = (-3, f, q, s_X2_draft h q, iA3 w, (7, 1, 5, nI w)) := by
  obtain ⟨k1, k2, k3, w0, w1, r0, r1, r2⟩ := t3_ok ⟨w, by omega⟩
  replace k1 : apOk (L3 w) (L3 w).length 0 iA2 = true := k1
  replace k2 : (s_X3_takeApart (apI (L3 w) (L3 w).length 0 iA2)).1 = true := k2
  replace k3 : cm (iA3 w) = 2 := k3
  replace w0 : s_X3_wordOf (iA3 w) 0 = 3 := w0
  replace w1 : s_X3_wordOf (iA3 w) 1 = 5 := w1
  replace r0 : iFs (iA3 w) 0 = 3 := r0
  replace r1 : iFs (iA3 w) 1 = 1 := r1
  replace r2 : iSs (iA3 w) 1 = nI w := r2
  rw [reads_eq f q h rs k1]
  unfold s_X10_read s_X10_read1
  rw [k2, if_neg qb1]
  show s_X10_read_L f (s_X2_draft h q) (iA3 w) ((cm (iA3 w)).toInt.toNat + 1) 0 q rs = _
  generalize iA3 w = I at k3 w0 w1 r0 r1 r2 ⊢
  replace r0 : rowAt I.2.2.1 0 = 3 := r0
  replace r1 : rowAt I.2.2.1 1 = 1 := r1
  replace r2 : rowAt I.2.2.2.1 1 = nI w := r2
  rw [k3, show (2 : Int32).toInt.toNat + 1 = 3 by decide]
  replace k3 : I.2.2.2.2.2.1 = 2 := k3
  have hd := hH.dropped q
  rw [s_X10_read_L, if_neg (show ¬ I.2.2.2.2.2.1 ≤ 0 by rw [k3]; decide), co_walk w0, r0]
  have hv := walk_pos hq (x := 3) (there_nI (j := 3) hc hn (by omega))
  generalize s_X5_walkTo q 3 = A at hv ⊢
  rw [if_pos hv.1]
  show s_X10_read_L f (s_X2_draft h q) I 2 (0 + 1) A.2 rs = _
  have hc1 : A.2.1.2.2 = nI cn := by rw [hv.2.2]; exact hc
  rw [show (0 : Int32) + 1 = 1 from rfl, s_X10_read_L, if_neg (show ¬ I.2.2.2.2.2.1 ≤ 1 by rw [k3]; decide), co_weigh w1, r1, r2, cw3 (x := 1) (there_nI (j := 1) hc1 hn (by omega)) (isW_T hw) (by rw [hv.2.2]; exact hww)]
  rw [if_neg (show ¬ (0 : Int32) ≤ -3 by decide), if_pos rfl, hd]
  rfl
