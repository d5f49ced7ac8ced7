/-! OF THE SPEC FUNCTIONS ALONE: what holds of every quarry, and what a change does -/
theorem i_lt {a b : Int32} : a < b ↔ a.toInt < b.toInt := Int32.lt_iff_toInt_lt
theorem i_le {a b : Int32} : a ≤ b ↔ a.toInt ≤ b.toInt := Int32.le_iff_toInt_le
theorem i0 : (0 : Int32).toInt = 0 := by decide
theorem i1 : (1 : Int32).toInt = 1 := by decide
theorem im1 : (-1 : Int32).toInt = -1 := by decide
theorem im2 : (-2 : Int32).toInt = -2 := by decide
theorem im3 : (-3 : Int32).toInt = -3 := by decide
theorem im4 : (-4 : Int32).toInt = -4 := by decide
theorem i3 : (3 : Int32).toInt = 3 := by decide
theorem i8 : (8 : Int32).toInt = 8 := by decide
theorem i9 : (9 : Int32).toInt = 9 := by decide
theorem i16 : (16 : Int32).toInt = 16 := by decide
theorem i99 : (99 : Int32).toInt = 99 := by decide
theorem id0 : (default : Int32) = 0 := by decide
theorem i_add {a b : Int32} (h1 : -2147483648 ≤ a.toInt + b.toInt) (h2 : a.toInt + b.toInt < 2147483648) : (a + b).toInt = a.toInt + b.toInt := by
  rw [Int32.toInt_add]
  exact Int.bmod_eq_of_le (by omega) (by omega)
theorem i_sub {a b : Int32} (h1 : -2147483648 ≤ a.toInt - b.toInt) (h2 : a.toInt - b.toInt < 2147483648) : (a - b).toInt = a.toInt - b.toInt := by
  rw [Int32.toInt_sub]
  exact Int.bmod_eq_of_le (by omega) (by omega)
theorem i_eq {a b : Int32} (h : a.toInt = b.toInt) : a = b := Int32.toInt_inj.mp h
/-- in range, as a number -/
abbrev iB (lo hi : Int) (x : Int32) : Prop := lo ≤ x.toInt ∧ x.toInt ≤ hi
theorem iB_nat {x : Int32} {n : Nat} (h : iB 0 n x) (hn : n < 2 ^ 31) : ∃ m, m ≤ n ∧ x = nI m := by
  refine ⟨x.toInt.toNat, by omega, i_eq ?_⟩
  rw [nI_toInt (by omega)]
  omega
theorem rowAt_mem {L : List Int32} {i : Int32} (hL : L.length < 2 ^ 31) (h0 : 0 ≤ i.toInt) (h1 : i.toInt < L.length) : rowAt L i ∈ L := by
  have e1 : (Int32.ofNat L.length).toInt = (L.length : Int) := nI_toInt hL
  have h2 : i < Int32.ofNat L.length := by rw [i_lt, e1]; exact h1
  have h3 : 0 ≤ i := by rw [i_le, i0]; exact h0
  have h4 := q_within hL h3 h2
  rw [rowAt, if_pos ⟨h3, h2⟩, List.getD_eq_getElem?_getD, List.getElem?_eq_getElem h4]
  exact List.getElem_mem h4
theorem rowAt_P {P : Int32 → Prop} {L : List Int32} (i : Int32) (hL : L.length < 2 ^ 31) (h : ∀ x ∈ L, P x) (h1 : P (-1)) : P (rowAt L i) := by
  have e1 : (Int32.ofNat L.length).toInt = (L.length : Int) := nI_toInt hL
  by_cases h2 : 0 ≤ i.toInt ∧ i.toInt < L.length
  · exact h _ (rowAt_mem hL h2.1 h2.2)
  · rw [rowAt, if_neg]
    · exact h1
    · rw [i_le, i_lt, e1, i0]
      exact h2
theorem rowPut_P {P : Int32 → Prop} {L : List Int32} {i x : Int32} (h : ∀ y ∈ L, P y) (hx : P x) : ∀ y ∈ rowPut L i x, P y := by
  intro y hy
  unfold rowPut at hy
  split at hy
  · rcases List.mem_or_eq_of_mem_set hy with h1 | h1
    · exact h y h1
    · rw [h1]; exact hx
  · exact h y hy
theorem steps_B (L : List Int32) (p1 : Int32) : ∀ (n k : Nat) (x3 : Int32), k ≤ 16 → iB 0 16 (s_X10_stepsAlong_L8 L p1 n (nI k) x3) := by
  intro n
  induction n with
  | zero => intro k x3 hk; rw [s_X10_stepsAlong_L8, id0]; decide
  | succ n ih =>
    intro k x3 hk
    have ek := nI_toInt (n := k) (by omega)
    rw [s_X10_stepsAlong_L8]
    split
    · exact ⟨by omega, by omega⟩
    · rename_i h1
      rw [i_le, i16, ek] at h1
      split
      · exact ⟨by omega, by omega⟩
      · rw [show nI k + 1 = nI (k + 1) from (nI_succ k).symm]
        exact ih (k + 1) _ (by omega)
theorem depth_B (v : qBV) (p1 : Int32) : iB 0 16 (s_X1_depthOf v p1) := by
  unfold s_X1_depthOf s_X10_stepsAlong
  exact steps_B _ _ _ 0 _ (by decide)
theorem last_B (L : List Int32) (p1 : Int32) : ∀ (n : Nat) (x2 x3 : Int32), 0 ≤ x2.toInt → 0 ≤ (s_X10_lastAlong_L4 L p1 n x2 x3).toInt := by
  intro n
  induction n with
  | zero => intro x2 x3 h; rw [s_X10_lastAlong_L4, id0]; decide
  | succ n ih =>
    intro x2 x3 h
    rw [s_X10_lastAlong_L4]
    split
    · exact h
    · split
      · exact h
      · rename_i h2
        rw [i_lt, i0] at h2
        exact ih _ _ (by omega)
theorem root_B (v : qBV) (p1 : Int32) (h : 0 ≤ p1.toInt) : 0 ≤ (s_X1_rootByHolders v p1).toInt := by
  unfold s_X1_rootByHolders s_X10_lastAlong
  exact last_B _ _ _ _ _ h
def bOk (v : qBV) : Prop := (v.1.length = 16 ∧ ∀ x ∈ v.1, iB 0 99 x) ∧ (v.2.1.length = 16 ∧ ∀ x ∈ v.2.1, iB (-1) 15 x) ∧ iB 0 16 v.2.2
def sOk (v : qSV) : Prop := (v.2.2.2.1.length = 3 ∧ ∀ x ∈ v.2.2.2.1, iB 0 1 x) ∧ iB 0 3 v.2.2.2.2
def Iv (q : qQV) : Prop := bOk q.1 ∧ sOk q.2.2.1
theorem weight_B {v : qBV} (h : bOk v) {p : Int32} (hp : iB 0 15 p) : iB 0 99 (s_X1_weightOf v p) := h.1.2 _ (rowAt_mem (by rw [h.1.1]; decide) hp.1 (by rw [h.1.1]; have := hp.2; omega))
theorem holder_B {v : qBV} (h : bOk v) (p : Int32) : iB (-1) 15 (s_X1_holderOf v p) := rowAt_P p (by rw [h.2.1.1]; decide) h.2.1.2 (by decide)
theorem sum_B {v : qBV} (h : bOk v) (p1 : Int32) : ∀ (n k : Nat) (x2 x3 : Int32), k ≤ 16 → iB 0 (99 * k) x2 → iB (-1) 15 x3 → iB 0 1584 (s_X1_sumByHolders_L7 v p1 n x2 x3 (nI k)) := by
  intro n
  induction n with
  | zero => intro k x2 x3 hk h2 h3; rw [s_X1_sumByHolders_L7, id0]; decide
  | succ n ih =>
    intro k x2 x3 hk h2 h3
    have ek := nI_toInt (n := k) (by omega)
    rw [s_X1_sumByHolders_L7]
    split
    · exact ⟨by omega, by omega⟩
    · rename_i h1
      rw [i_le, i16, ek] at h1
      split
      · exact ⟨by omega, by omega⟩
      · rename_i h4
        rw [i_lt, i0] at h4
        have hw := weight_B h (p := x3) ⟨by omega, by omega⟩
        rw [show nI k + 1 = nI (k + 1) from (nI_succ k).symm]
        have ea := i_add (a := x2) (b := s_X1_weightOf v x3) (by omega) (by omega)
        exact ih (k + 1) _ _ (by omega) (by unfold iB; rw [ea]; omega) (holder_B h x3)
theorem sumB {v : qBV} (h : bOk v) (p1 : Int32) (hp : iB (-1) 15 p1) : iB 0 1584 (s_X1_sumByHolders v p1) := by
  unfold s_X1_sumByHolders
  exact sum_B h p1 _ 0 0 p1 (by decide) (by decide) hp
theorem there_B {v : qBV} {p : Int32} (h : ¬ qbi (s_X1_isThere v p) = 0) : 0 ≤ p.toInt ∧ p.toInt < v.2.2.toInt := by
  unfold s_X1_isThere at h
  split at h
  · exact absurd rfl h
  · rename_i h1
    split at h
    · exact absurd rfl h
    · rename_i h2
      rw [i_lt, i0] at h1
      rw [i_le] at h2
      omega
theorem there_T {v : qBV} {p : Int32} (h0 : 0 ≤ p.toInt) (h1 : p.toInt < v.2.2.toInt) : s_X1_isThere v p = true := by
  unfold s_X1_isThere
  rw [if_neg (by rw [i_lt, i0]; omega), if_neg (by rw [i_le]; omega)]
theorem there_F {v : qBV} {p : Int32} (h : p.toInt < 0 ∨ v.2.2.toInt ≤ p.toInt) : s_X1_isThere v p = false := by
  unfold s_X1_isThere
  split
  · rfl
  · rename_i h1
    rw [i_lt, i0] at h1
    rw [if_pos (by rw [i_le]; omega)]
theorem exp_L (p1 : Int32) : ∀ (n : Nat) (x2 x3 x4 : Int32) (z : qQV), 1 ≤ n → 17 ≤ n + x4.toInt → 0 ≤ x4.toInt → x4.toInt ≤ 16 → (s_X5_expose_L47 p1 n x2 x3 x4 z).1 = z.1 ∧ (s_X5_expose_L47 p1 n x2 x3 x4 z).2.2.1 = z.2.2.1 := by
  intro n
  induction n with
  | zero => intro x2 x3 x4 z h; exact absurd h (by decide)
  | succ n ih =>
    intro x2 x3 x4 z _ h h0 h16
    rw [s_X5_expose_L47]
    split
    · exact ⟨rfl, rfl⟩
    · rename_i h1
      rw [i_le, i16] at h1
      split
      · exact ⟨rfl, rfl⟩
      · have ea := i_add (a := x4) (b := 1) (by rw [i1]; omega) (by rw [i1]; omega)
        rw [i1] at ea
        have hz := ih x3 (s_X1_holderOf z.1 (s_X8_topOf (s_X8_joinRight (s_X8_takeRightOff (s_X8_splay z.2.1 x3) x3) x3 x2) x3)) (x4 + 1) (z.1, (s_X8_joinRight (s_X8_takeRightOff (s_X8_splay z.2.1 x3) x3) x3 x2), z.2.2.1, z.2.2.2.1, z.2.2.2.2.1, z.2.2.2.2.2) (by omega) (by omega) (by omega) (by omega)
        exact hz
theorem fuel16 : (16 : Int32).toInt.toNat + 1 = 17 := by decide
theorem exp_b (v : qQV) (p : Int32) : (s_X5_expose v p).1 = v.1 := by
  unfold s_X5_expose
  exact (exp_L p _ _ _ _ _ (by decide) (by decide) (by decide) (by decide)).1
theorem exp_s (v : qQV) (p : Int32) : (s_X5_expose v p).2.2.1 = v.2.2.1 := by
  unfold s_X5_expose
  exact (exp_L p _ _ _ _ _ (by decide) (by decide) (by decide) (by decide)).2
theorem exp_Iv {v : qQV} (p : Int32) (h : Iv v) : Iv (s_X5_expose v p) := by
  unfold Iv
  rw [exp_b, exp_s]
  exact h
/-- what a change answers and leaves: an error leaves all as it was -/
def OpOk (q : qQV) (x : Int32) (q' : qQV) : Prop := (x < 0 → q' = q) ∧ (0 ≤ x → Iv q')
theorem OpOk.no {q : qQV} {x : Int32} (h : x < 0) : OpOk q x q := ⟨fun _ => rfl, fun h1 => absurd h (by rw [i_lt]; rw [i_le] at h1; omega)⟩
theorem OpOk.n1 {q : qQV} : OpOk q (-1) q := OpOk.no (by decide)
theorem OpOk.n2 {q : qQV} : OpOk q (-2) q := OpOk.no (by decide)
theorem OpOk.n3 {q : qQV} : OpOk q (-3) q := OpOk.no (by decide)
theorem OpOk.yes {q q' : qQV} {x : Int32} (h : 0 ≤ x.toInt) (hq : Iv q') : OpOk q x q' := ⟨fun h1 => absurd h1 (by rw [i_lt, i0]; omega), fun _ => hq⟩
theorem isW_B {x : Int32} (h : ¬ qbi (s_X5_isWeight x) = 0) : iB 0 99 x := by
  unfold s_X5_isWeight at h
  split at h
  · exact absurd rfl h
  · rename_i h1
    split at h
    · exact absurd rfl h
    · rename_i h2
      rw [i_lt, i0] at h1
      rw [i_lt, i99] at h2
      exact ⟨by omega, by omega⟩
theorem op_add {q : qQV} (rs : qRV) (x : Int32) (h : Iv q) : OpOk q (s_X5_addBlock q rs x).1 (s_X5_addBlock q rs x).2.1 := by
  unfold s_X5_addBlock
  split
  · first | exact OpOk.n1 | exact OpOk.n2 | exact OpOk.n3
  · rename_i h1
    split
    · rename_i h2
      rw [i_lt, i16] at h2
      have hc := h.1.2.2
      refine OpOk.yes hc.1 ⟨⟨⟨(rowPut_length _ _ _).trans h.1.1.1, rowPut_P h.1.1.2 (isW_B h1)⟩, ⟨(rowPut_length _ _ _).trans h.1.2.1.1, rowPut_P h.1.2.1.2 (by decide)⟩, ?_⟩, h.2⟩
      show iB 0 16 (q.1.2.2 + 1)
      unfold iB
      rw [i_add (by rw [i1]; omega) (by rw [i1]; omega), i1]
      omega
    · first | exact OpOk.n1 | exact OpOk.n2 | exact OpOk.n3
theorem op_hang {q : qQV} (rs : qRV) (x y : Int32) (h : Iv q) : OpOk q (s_X5_hangOn q rs x y).1 (s_X5_hangOn q rs x y).2.1 := by
  unfold s_X5_hangOn
  have hv : Iv (s_X5_expose (s_X5_expose q x) y) := exp_Iv _ (exp_Iv _ h)
  generalize s_X5_expose (s_X5_expose q x) y = E at hv ⊢
  split
  · first | exact OpOk.n1 | exact OpOk.n2 | exact OpOk.n3
  · split
    · first | exact OpOk.n1 | exact OpOk.n2 | exact OpOk.n3
    · rename_i h1
      have hy := there_B h1
      have hc := h.1.2.2
      split
      · split
        · first | exact OpOk.n1 | exact OpOk.n2 | exact OpOk.n3
        · exact OpOk.yes (depth_B _ _).1 ⟨⟨hv.1.1, ⟨(rowPut_length _ _ _).trans hv.1.2.1.1, rowPut_P hv.1.2.1.2 ⟨by omega, by omega⟩⟩, hv.1.2.2⟩, hv.2⟩
      · first | exact OpOk.n1 | exact OpOk.n2 | exact OpOk.n3
theorem op_cut {q : qQV} (rs : qRV) (x : Int32) (h : Iv q) : OpOk q (s_X5_cutOff q rs x).1 (s_X5_cutOff q rs x).2.1 := by
  unfold s_X5_cutOff
  have hv : Iv (s_X5_expose q x) := exp_Iv _ h
  generalize s_X5_expose q x = E at hv ⊢
  split
  · first | exact OpOk.n1 | exact OpOk.n2 | exact OpOk.n3
  · split
    · rename_i h2
      rw [i_le, i0] at h2
      exact OpOk.yes h2 ⟨⟨hv.1.1, ⟨(rowPut_length _ _ _).trans hv.1.2.1.1, rowPut_P hv.1.2.1.2 (by decide)⟩, hv.1.2.2⟩, hv.2⟩
    · first | exact OpOk.n1 | exact OpOk.n2 | exact OpOk.n3
theorem op_walk {q : qQV} (x : Int32) (h : Iv q) : OpOk q (s_X5_walkTo q x).1 (s_X5_walkTo q x).2 := by
  unfold s_X5_walkTo
  have hv : Iv (s_X5_expose q x) := exp_Iv _ h
  generalize s_X5_expose q x = E at hv ⊢
  split
  · first | exact OpOk.n1 | exact OpOk.n2 | exact OpOk.n3
  · rename_i h1
    have hy := there_B h1
    have hc := h.1.2.2
    exact OpOk.yes (sumB hv.1 x ⟨by omega, by omega⟩).1 hv
theorem op_up {q : qQV} (x : Int32) (h : Iv q) : OpOk q (s_X5_goUp q x).1 (s_X5_goUp q x).2 := by
  unfold s_X5_goUp
  have hv : Iv (s_X5_expose q x) := exp_Iv _ h
  generalize s_X5_expose q x = E at hv ⊢
  split
  · first | exact OpOk.n1 | exact OpOk.n2 | exact OpOk.n3
  · rename_i h1
    have hy := there_B h1
    exact OpOk.yes (root_B _ _ hy.1) hv
theorem op_weigh {q : qQV} (rs : qRV) (x y : Int32) (h : Iv q) : OpOk q (s_X5_changeWeight q rs x y).1 (s_X5_changeWeight q rs x y).2.1 := by
  unfold s_X5_changeWeight
  split
  · first | exact OpOk.n1 | exact OpOk.n2 | exact OpOk.n3
  · rename_i h1
    have hy := there_B h1
    have hc := h.1.2.2
    split
    · first | exact OpOk.n1 | exact OpOk.n2 | exact OpOk.n3
    · rename_i h2
      split
      · first | exact OpOk.n1 | exact OpOk.n2 | exact OpOk.n3
      · exact OpOk.yes (weight_B h.1 (p := x) ⟨by omega, by omega⟩).1 ⟨⟨⟨(rowPut_length _ _ _).trans h.1.1.1, rowPut_P h.1.1.2 (isW_B h2)⟩, h.1.2⟩, h.2⟩
theorem op_sledge {q : qQV} (rs : qRV) (x : Int32) (h : Iv q) : OpOk q (s_X5_setSledge q rs x).1 (s_X5_setSledge q rs x).2.1 := by
  unfold s_X5_setSledge
  split
  · first | exact OpOk.n1 | exact OpOk.n2 | exact OpOk.n3
  · split
    · rename_i h2
      rw [i_lt, i3] at h2
      have hc := h.2.2
      refine OpOk.yes hc.1 ⟨h.1, ⟨(rowPut_length _ _ _).trans h.2.1.1, rowPut_P h.2.1.2 (by decide)⟩, ?_⟩
      show iB 0 3 (q.2.2.1.2.2.2.2 + 1)
      unfold iB
      rw [i_add (by rw [i1]; omega) (by rw [i1]; omega), i1]
      omega
    · first | exact OpOk.n1 | exact OpOk.n2 | exact OpOk.n3
/-- the arrived ones: of arrivals and count alone -/
theorem arr_fin : ∀ a b c : Fin 2, ∀ n s : Fin 4, (s_X7_countArrived_L4 (([] : List Int32), [], [], [nI a.1, nI b.1, nI c.1], nI n.1) (n.1 + 1) 0 0).toInt ≤ (s_X7_countArrived_L4 (([] : List Int32), [], [], (rowPut [nI a.1, nI b.1, nI c.1] (nI s.1) 1), nI n.1) (n.1 + 1) 0 0).toInt ∧ iB 0 3 (s_X7_countArrived_L4 (([] : List Int32), [], [], [nI a.1, nI b.1, nI c.1], nI n.1) (n.1 + 1) 0 0) := by decide +kernel
theorem arr_L (v w : qSV) (h : v.2.2.2 = w.2.2.2) : ∀ (n : Nat) (x y : Int32), s_X7_countArrived_L4 v n x y = s_X7_countArrived_L4 w n x y := by
  intro n
  induction n with
  | zero => intro x y; rfl
  | succ n ih =>
    intro x y
    rw [s_X7_countArrived_L4, s_X7_countArrived_L4, h, ih]
theorem arr_of {v : qSV} (h : sOk v) : ∃ (a b c : Fin 2) (n : Fin 4), v.2.2.2.1 = [nI a.1, nI b.1, nI c.1] ∧ v.2.2.2.2 = nI n.1 := by
  obtain ⟨⟨h1, h2⟩, h3⟩ := h
  obtain ⟨m, hm, hn⟩ := iB_nat (n := 3) h3 (by decide)
  match hL : v.2.2.2.1, h1 with
  | [x, y, z], _ =>
    rw [hL] at h2
    obtain ⟨a, ha, ea⟩ := iB_nat (n := 1) (h2 x (by simp)) (by decide)
    obtain ⟨b, hb, eb⟩ := iB_nat (n := 1) (h2 y (by simp)) (by decide)
    obtain ⟨c, hc, ec⟩ := iB_nat (n := 1) (h2 z (by simp)) (by decide)
    exact ⟨⟨a, by omega⟩, ⟨b, by omega⟩, ⟨c, by omega⟩, ⟨m, by omega⟩, by rw [ea, eb, ec], hn⟩
theorem arr_B {v : qSV} (h : sOk v) : iB 0 3 (s_X7_countArrived v) := by
  obtain ⟨a, b, c, n, h1, h2⟩ := arr_of h
  have e := (arr_fin a b c n 0).2
  unfold s_X7_countArrived
  rw [arr_L v (([] : List Int32), [], [], [nI a.1, nI b.1, nI c.1], nI n.1) (by rw [← h1, ← h2]), h2, nI_toInt (by omega)]
  exact e
theorem arr_up {v w : qSV} (h : sOk v) (s : Fin 4) (hw : w.2.2.2.1 = rowPut v.2.2.2.1 (nI s.1) 1) (hn : w.2.2.2.2 = v.2.2.2.2) : (s_X7_countArrived v).toInt ≤ (s_X7_countArrived w).toInt := by
  obtain ⟨a, b, c, n, h1, h2⟩ := arr_of h
  have e := (arr_fin a b c n s).1
  unfold s_X7_countArrived
  rw [arr_L v (([] : List Int32), [], [], [nI a.1, nI b.1, nI c.1], nI n.1) (by rw [← h1, ← h2]), arr_L w (([] : List Int32), [], [], (rowPut [nI a.1, nI b.1, nI c.1] (nI s.1) 1), nI n.1) (by rw [← h1, ← h2, ← hw, ← hn]), hn, h2, nI_toInt (by omega)]
  exact e
theorem drag_ok {v : qSV} (h : sOk v) (s : Fin 4) (y : Int32) : sOk (s_X7_drag v (nI s.1) y) ∧ (s_X7_countArrived v).toInt ≤ (s_X7_countArrived (s_X7_drag v (nI s.1) y)).toInt := by
  unfold s_X7_drag
  split
  · exact ⟨⟨⟨(rowPut_length _ _ _).trans h.1.1, rowPut_P h.1.2 (by decide)⟩, h.2⟩, arr_up h s rfl rfl⟩
  · refine ⟨h, ?_⟩
    unfold s_X7_countArrived
    exact Int.le_of_eq (congrArg Int32.toInt (arr_L v (rowPut v.1 (nI s.1) y, v.2.1, rowPut v.2.2.1 (nI s.1) (rowAt v.2.2.1 (nI s.1) + 1), v.2.2.2.1, v.2.2.2.2) rfl _ _ _))
theorem pull_L (b0 : Int32) (hb : iB 0 3 b0) : ∀ (n k : Nat) (z : qQV) (rs : qRV), n + k = 4 → k ≤ 3 → Iv z → b0.toInt ≤ (s_X7_countArrived z.2.2.1).toInt → 0 ≤ (s_X5_pullSledges_L34 n b0 (nI k) z rs).1.toInt ∧ Iv (s_X5_pullSledges_L34 n b0 (nI k) z rs).2.1 := by
  intro n
  induction n with
  | zero => intro k z rs h1 h2; omega
  | succ n ih =>
    intro k z rs hk h3 hz hle
    have ek := nI_toInt (n := k) (by omega)
    rw [s_X5_pullSledges_L34]
    split
    · have ha := arr_B hz.2
      refine ⟨?_, hz⟩
      show 0 ≤ ((s_X7_countArrived z.2.2.1) - b0).toInt
      rw [i_sub (by omega) (by omega)]
      omega
    · rename_i h1
      rw [i_le, i3, ek] at h1
      rw [show nI k + 1 = nI (k + 1) from (nI_succ k).symm]
      split
      · exact ih (k + 1) z rs (by omega) (by omega) hz hle
      · have hv := exp_Iv (s_X7_placeAt z.2.2.1 (nI k)) hz
        have hs := exp_s z (s_X7_placeAt z.2.2.1 (nI k))
        generalize s_X5_expose z (s_X7_placeAt z.2.2.1 (nI k)) = E at hv hs ⊢
        have hd := drag_ok (v := E.2.2.1) hv.2 ⟨k, by omega⟩ (s_X1_holderOf E.1 (s_X7_placeAt z.2.2.1 (nI k)))
        generalize hG : s_X7_drag E.2.2.1 (nI k) (s_X1_holderOf E.1 (s_X7_placeAt z.2.2.1 (nI k))) = G at hd ⊢
        rw [hs] at hd
        exact ih (k + 1) _ rs (by omega) (by omega) ⟨hv.1, hd.1⟩ (Int.le_trans hle hd.2)
theorem op_pull {q : qQV} (rs : qRV) (h : Iv q) : OpOk q (s_X5_pullSledges q rs).1 (s_X5_pullSledges q rs).2.1 := by
  unfold s_X5_pullSledges
  split
  · first | exact OpOk.n1 | exact OpOk.n2 | exact OpOk.n3
  · have h9 := pull_L (s_X7_countArrived q.2.2.1) (arr_B h.2) ((3 : Int32).toInt.toNat + 1) 0 q rs (by decide) (by decide) h (Int.le_refl _)
    generalize hR : s_X5_pullSledges_L34 ((3 : Int32).toInt.toNat + 1) (s_X7_countArrived q.2.2.1) (nI 0) q rs = R at h9
    rw [show s_X5_pullSledges_L34 ((3 : Int32).toInt.toNat + 1) (s_X7_countArrived q.2.2.1) 0 q rs = R from hR]
    exact OpOk.yes h9.1 h9.2
theorem op_co {q : qQV} (k : Nat) (rs : qRV) (x y : Int32) (h : Iv q) : OpOk q (s_co k q rs x y).1 (s_co k q rs x y).2.1 := by
  unfold s_co
  split
  · exact op_add rs x h
  · exact op_hang rs x y h
  · exact op_cut rs x h
  · exact op_walk x h
  · exact op_up x h
  · exact op_weigh rs x y h
  · exact op_sledge rs x h
  · exact op_pull rs h
  · first | exact OpOk.n1 | exact OpOk.n2 | exact OpOk.n3
