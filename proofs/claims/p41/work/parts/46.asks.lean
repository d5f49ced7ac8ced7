/-! THE QUESTIONS of the law: of the quarry alone; no NaN -/
theorem rowAt_put {L : List Int32} (hL : L.length < 2 ^ 31) (i x p : Int32) : rowAt (rowPut L i x) p = if p = i ∧ 0 ≤ i ∧ i < Int32.ofNat L.length then x else rowAt L p := by
  by_cases hi : 0 ≤ i ∧ i < Int32.ofNat L.length
  · rw [rowPut, if_pos hi]
    by_cases hp : p = i
    · subst hp
      rw [if_pos ⟨rfl, hi⟩, rowAt, List.length_set, if_pos hi, List.getD_eq_getElem?_getD, List.getElem?_set_self (q_within hL hi.1 hi.2)]
      rfl
    · rw [if_neg (fun h => hp h.1), rowAt, rowAt, List.length_set]
      split
      · rename_i h
        have hne : i.toNatClampNeg ≠ p.toNatClampNeg := by
          intro h2
          apply hp
          apply i_eq
          have e1 : i.toNatClampNeg = i.toInt.toNat := rfl
          have e2 : p.toNatClampNeg = p.toInt.toNat := rfl
          have h3 := hi.1
          have h4 := h.1
          rw [i_le, i0] at h3 h4
          omega
        rw [List.getD_eq_getElem?_getD, List.getD_eq_getElem?_getD, List.getElem?_set_ne hne]
      · rfl
  · rw [rowPut, if_neg hi, if_neg (fun h => hi h.2)]
/-- two lines that say the same -/
def Rn (a b : qNV) : Prop := a.2 = b.2 ∧ a.1.length = 54 ∧ b.1.length = 54 ∧ ∀ p, p < a.2 → rowAt a.1 p = rowAt b.1 p
theorem Rn.code {a b : qNV} (h : Rn a b) (p : Int32) : s_X4_codeAt a p = s_X4_codeAt b p := by
  unfold s_X4_codeAt
  rw [← h.1]
  split
  · rfl
  · rename_i h1
    exact h.2.2.2 p (by rw [i_lt]; rw [i_le] at h1; omega)
theorem Rn.sign {a b : qNV} (h : Rn a b) (x : Int32) : Rn (s_X4_addSign a x) (s_X4_addSign b x) := by
  unfold s_X4_addSign
  rw [← h.1]
  split
  · exact h
  · rename_i h1
    rw [i_le, show (54 : Int32).toInt = 54 by decide] at h1
    refine ⟨rfl, (rowPut_length _ _ _).trans h.2.1, (rowPut_length _ _ _).trans h.2.2.1, fun p hp => ?_⟩
    show rowAt (rowPut a.1 a.2 x) p = rowAt (rowPut b.1 a.2 x) p
    rw [rowAt_put (by rw [h.2.1]; decide), rowAt_put (by rw [h.2.2.1]; decide), h.2.1, h.2.2.1]
    split
    · rfl
    · rename_i h2
      have hp' : p < a.2 + 1 := hp
      by_cases hn : a.2.toInt < 0
      · have hb : (a.2 + 1).toInt = a.2.toInt + 1 := by
          have := Int32.le_toInt a.2
          exact (i_add (by rw [i1]; omega) (by rw [i1]; omega)).trans (by rw [i1])
        rw [i_lt, hb] at hp'
        rw [rowAt_neg (by rw [i_lt, i0]; omega), rowAt_neg (by rw [i_lt, i0]; omega)]
      · have hb : (a.2 + 1).toInt = a.2.toInt + 1 := (i_add (by rw [i1]; omega) (by rw [i1]; omega)).trans (by rw [i1])
        rw [i_lt, hb] at hp'
        refine h.2.2.2 p ?_
        rw [i_lt]
        by_cases he : p = a.2
        · exact absurd ⟨he, by rw [i_le, i0]; omega, by rw [i_lt, show (Int32.ofNat 54).toInt = 54 by decide]; omega⟩ h2
        · have hne : p.toInt ≠ a.2.toInt := fun z => he (i_eq z)
          omega
theorem Rn.number {a b : qNV} (h : Rn a b) (x : Int32) : Rn (s_X4_addNumber a x) (s_X4_addNumber b x) := by
  unfold s_X4_addNumber
  split
  · exact h.sign _
  · exact (h.sign _).sign _
theorem Rn.empty {a b : qNV} (ha : a.1.length = 54) (hb : b.1.length = 54) : Rn (s_X4_makeEmpty a) (s_X4_makeEmpty b) :=
  ⟨rfl, ha, hb, fun p hp => by
    have hp' : p < 0 := hp
    show rowAt a.1 p = rowAt b.1 p
    rw [rowAt_neg hp', rowAt_neg hp']⟩
theorem Rn.tree (u : qTV) : ∀ (n : Nat) (a b : qNV) (p2 p3 : Int32), Rn a b → 17 ≤ n + p3.toInt → 0 ≤ p3.toInt → p3.toInt ≤ 16 → Rn (s_X10_writeTree u n a p2 p3) (s_X10_writeTree u n b p2 p3) := by
  intro n
  induction n with
  | zero => intro a b p2 p3 h h1 h2 h3; omega
  | succ n ih =>
    intro a b p2 p3 h h1 h2 h3
    rw [s_X10_writeTree, s_X10_writeTree]
    split
    · exact h
    · split
      · rename_i h4
        rw [i_lt, i16] at h4
        have ea := i_add (a := p3) (b := 1) (by rw [i1]; omega) (by rw [i1]; omega)
        rw [i1] at ea
        exact (ih _ _ _ _ ((ih _ _ _ _ (h.sign _) (by omega) (by omega) (by omega)).number _) (by omega) (by omega) (by omega)).sign _
      · exact h
theorem Rn.rope_L (f f' : Int32 × Int32) (q : qQV) (p1 : Int32) : ∀ (n : Nat) (x2 x3 : Int32) (a b : qNV), Rn a b → 17 ≤ n + x3.toInt → 0 ≤ x3.toInt → x3.toInt ≤ 16 → Rn (s_X10_writeRope_L22 f q p1 n x2 x3 a) (s_X10_writeRope_L22 f' q p1 n x2 x3 b) := by
  intro n
  induction n with
  | zero => intro x2 x3 a b h h1 h2 h3; omega
  | succ n ih =>
    intro x2 x3 a b h h1 h2 h3
    rw [s_X10_writeRope_L22, s_X10_writeRope_L22]
    split
    · exact h
    · rename_i h4
      rw [i_le, i16] at h4
      split
      · exact h
      · have ea := i_add (a := x3) (b := 1) (by rw [i1]; omega) (by rw [i1]; omega)
        rw [i1] at ea
        exact ih _ _ _ _ ((h.sign _).number _) (by omega) (by omega) (by omega)
theorem Rn.rope (f f' : Int32 × Int32) (q : qQV) (p1 : Int32) {a b : qNV} (h : Rn a b) : Rn (s_X10_writeRope f q a p1) (s_X10_writeRope f' q b p1) := by
  unfold s_X10_writeRope
  exact Rn.rope_L f f' q p1 _ _ _ _ _ (h.number _) (by decide) (by decide) (by decide)
def RnP (a b : Int32 × qNV) : Prop := a.1 = b.1 ∧ (Rn a.2 b.2 ∨ a.2.1.length = 54 ∧ b.2.1.length = 54 ∧ a.1 = -1)
theorem Rn.ropes_L (f f' : Int32 × Int32) (q : qQV) (m : Nat) (hm : m ≤ 16) (hc : q.1.2.2 = nI m) : ∀ (n k : Nat) (a b : qNV), n + k = m + 1 → k ≤ m → Rn a b → (s_X10_tellRopes_L9 f q n (nI k) a).1 = (s_X10_tellRopes_L9 f' q n (nI k) b).1 ∧ Rn (s_X10_tellRopes_L9 f q n (nI k) a).2 (s_X10_tellRopes_L9 f' q n (nI k) b).2 := by
  intro n
  induction n with
  | zero => intro k a b h1 h2; omega
  | succ n ih =>
    intro k a b h1 h2 h
    rw [s_X10_tellRopes_L9, s_X10_tellRopes_L9, hc]
    split
    · exact ⟨h.1, h⟩
    · rename_i h3
      rw [i_le, nI_toInt (by omega), nI_toInt (by omega)] at h3
      rw [show nI k + 1 = nI (k + 1) from (nI_succ k).symm, ← h.1]
      split
      · split
        · exact ih (k + 1) _ _ (by omega) (by omega) (h.rope f f' q _)
        · exact ih (k + 1) _ _ (by omega) (by omega) ((h.sign _).rope f f' q _)
      · exact ih (k + 1) _ _ (by omega) (by omega) h
theorem Rn.ropes (f f' : Int32 × Int32) {q : qQV} (hq : Iv q) {a b : qNV} (ha : a.1.length = 54) (hb : b.1.length = 54) : (s_X10_tellRopes f q a).1 = (s_X10_tellRopes f' q b).1 ∧ Rn (s_X10_tellRopes f q a).2 (s_X10_tellRopes f' q b).2 := by
  obtain ⟨m, hm, hc⟩ := iB_nat (n := 16) hq.1.2.2 (by decide)
  unfold s_X10_tellRopes
  exact Rn.ropes_L f f' q m hm hc _ 0 _ _ (by rw [hc, nI_toInt (by omega)]; omega) (by omega) (Rn.empty ha hb)
theorem Rn.tell (f f' : Int32 × Int32) (q : qQV) (p : Int32) {a b : qNV} (ha : a.1.length = 54) (hb : b.1.length = 54) : RnP (s_X10_tellTree f q a p) (s_X10_tellTree f' q b p) := by
  unfold s_X10_tellTree
  split
  · exact ⟨rfl, Or.inr ⟨ha, hb, rfl⟩⟩
  · have h := Rn.tree q.2.1 17 _ _ (s_X8_headOf q.2.1 p) 0 (Rn.empty ha hb) (by decide) (by decide) (by decide)
    exact ⟨h.1, Or.inl h⟩
