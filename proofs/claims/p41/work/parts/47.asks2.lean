/-! .. asks answers by the quarry alone -/
def KR (K K' : Int64 → Int32 → Int32 → qQV → qNV → (Int64 × qQV × qNV)) : Prop := ∀ (x : Int64) (y z : Int32) (u u' : qQV) (a b : qNV), a.1.length = 54 → b.1.length = 54 → (K x y z u a).1 = (K' x y z u' b).1
theorem wr_eq (f f' : Int32 × Int32) {a b : qNV} (h : Rn a b) (p : Int32) : s_X10_written f a p = s_X10_written f' b p := h.code p
section QAS
variable (f f' : Int32 × Int32) (h h' : qHV) (i i' : qIV)
theorem as_353 (q : qQV) : ∀ (n : Nat) (x1 : Int64) (x3 x4 x5 : Int32) (u u' : qQV) (a b : qNV), Rn a b → (s_L_asks_L353 f q h i n x1 x3 x4 x5 u a).1 = (s_L_asks_L353 f' q h' i' n x1 x3 x4 x5 u' b).1 := by
  intro n
  induction n with
  | zero => intro x1 x3 x4 x5 u u' a b hr; rfl
  | succ n ih =>
    intro x1 x3 x4 x5 u u' a b hr
    rw [s_L_asks_L353, s_L_asks_L353]
    split
    · rfl
    · rw [wr_eq f f' hr]
      exact ih _ _ _ _ _ _ _ _ hr
theorem as_310 (q : qQV) {K K' : Int64 → Int32 → Int32 → qQV → qNV → (Int64 × qQV × qNV)} (hK : KR K K') (y1 : Int64) (y3 y4 : Int32) : ∀ (n : Nat) (x1 : Int64) (x5 : Int32) (u u' : qQV) (a b : qNV), a.1.length = 54 → b.1.length = 54 → (s_L_asks_L310 f q h i y1 y3 y4 K n x1 x5 u a).1 = (s_L_asks_L310 f' q h' i' y1 y3 y4 K' n x1 x5 u' b).1 := by
  intro n
  induction n with
  | zero => intro x1 x5 u u' a b ha hb; rfl
  | succ n ih =>
    intro x1 x5 u u' a b ha hb
    rw [s_L_asks_L310, s_L_asks_L310]
    split
    · exact hK _ _ _ _ _ _ _ ha hb
    · exact ih _ _ _ _ _ _ ha hb
theorem as_301 {q : qQV} (hq : Iv q) : ∀ (n : Nat), KR (s_L_asks_L301 f q h i n) (s_L_asks_L301 f' q h' i' n) := by
  intro n
  induction n with
  | zero => intro x1 x3 x4 u u' a b ha hb; rfl
  | succ n ih =>
    intro x1 x3 x4 u u' a b ha hb
    rw [s_L_asks_L301, s_L_asks_L301]
    split
    · obtain ⟨e1, e2⟩ := Rn.ropes f f' hq ha hb
      rw [e1]
      exact as_353 f f' h h' i i' q _ _ _ _ _ _ _ _ _ e2
    · exact as_310 f f' h h' i i' q ih _ _ _ _ _ _ _ _ _ _ ha hb
theorem Rn.len {a b : qNV} (h : Rn a b) : a.1.length = 54 ∧ b.1.length = 54 := ⟨h.2.1, h.2.2.1⟩
theorem as_265 (q : qQV) {K K' : Int64 → Int32 → Int32 → qQV → qNV → (Int64 × qQV × qNV)} (hK : KR K K') (y1 : Int64) (y3 y4 : Int32) : ∀ (n : Nat) (x1 : Int64) (x5 x6 : Int32) (u u' : qQV) (a b : qNV), Rn a b → (s_L_asks_L265 f q h i y1 y3 y4 K n x1 x5 x6 u a).1 = (s_L_asks_L265 f' q h' i' y1 y3 y4 K' n x1 x5 x6 u' b).1 := by
  intro n
  induction n with
  | zero => intro x1 x5 x6 u u' a b hr; rfl
  | succ n ih =>
    intro x1 x5 x6 u u' a b hr
    rw [s_L_asks_L265, s_L_asks_L265]
    split
    · exact hK _ _ _ _ _ _ _ hr.len.1 hr.len.2
    · rw [wr_eq f f' hr]
      exact ih _ _ _ _ _ _ _ hr
theorem as_265n (q : qQV) {K K' : Int64 → Int32 → Int32 → qQV → qNV → (Int64 × qQV × qNV)} (hK : KR K K') (y1 : Int64) (y3 y4 : Int32) (n : Nat) (x1 : Int64) (u u' : qQV) (a b : qNV) (ha : a.1.length = 54) (hb : b.1.length = 54) : (s_L_asks_L265 f q h i y1 y3 y4 K (n + 1) x1 (-1) 0 u a).1 = (s_L_asks_L265 f' q h' i' y1 y3 y4 K' (n + 1) x1 (-1) 0 u' b).1 := by
  rw [s_L_asks_L265, s_L_asks_L265, if_pos (by decide), if_pos (by decide)]
  exact hK _ _ _ _ _ _ _ ha hb
theorem as_turns (q qt qt' : qQV) (p : Int32) : (s_X10_turnsFor f q qt p).1 = (s_X10_turnsFor f' q qt' p).1 := by
  unfold s_X10_turnsFor
  rw [s_X5_takeOver_eq, s_X5_takeOver_eq]
  split
  · rfl
  · rfl
theorem as_72 (q : qQV) {K K' : Int64 → Int32 → Int32 → qQV → qNV → (Int64 × qQV × qNV)} (hK : KR K K') (y1 : Int64) (y3 y4 : Int32) : ∀ (n : Nat) (x1 : Int64) (x5 : Int32) (u u' : qQV) (a b : qNV), a.1.length = 54 → b.1.length = 54 → (s_L_asks_L72 f q h i y1 y3 y4 K n x1 x5 u a).1 = (s_L_asks_L72 f' q h' i' y1 y3 y4 K' n x1 x5 u' b).1 := by
  intro n
  induction n with
  | zero => intro x1 x5 u u' a b ha hb; rfl
  | succ n ih =>
    intro x1 x5 u u' a b ha hb
    rw [s_L_asks_L72, s_L_asks_L72]
    split
    · have ht := as_turns f f' q u u' y4
      have hr := Rn.tell f f' q y4 ha hb
      generalize s_X10_turnsFor f q u y4 = A at ht ⊢
      generalize s_X10_turnsFor f' q u' y4 = A' at ht ⊢
      generalize s_X10_tellTree f q a y4 = B at hr ⊢
      generalize s_X10_tellTree f' q b y4 = B' at hr ⊢
      rw [ht, ← hr.1]
      rcases hr.2 with hr2 | ⟨h1, h2, h3⟩
      · exact as_265 f f' h h' i i' q hK _ _ _ _ _ _ _ _ _ _ _ hr2
      · rw [h3]
        exact as_265n f f' h h' i i' q hK _ _ _ _ _ _ _ _ _ h1 h2
    · exact ih _ _ _ _ _ _ ha hb
theorem as_63 {q : qQV} (hq : Iv q) : ∀ (n : Nat), KR (s_L_asks_L63 f q h i n) (s_L_asks_L63 f' q h' i' n) := by
  intro n
  induction n with
  | zero => intro x1 x3 x4 u u' a b ha hb; rfl
  | succ n ih =>
    intro x1 x3 x4 u u' a b ha hb
    rw [s_L_asks_L63, s_L_asks_L63]
    split
    · exact as_301 f f' h h' i i' hq _ _ _ _ _ _ _ _ ha hb
    · exact as_72 f f' h h' i i' q ih _ _ _ _ _ _ _ _ _ _ ha hb
theorem as_acc (q : qQV) (p : Int32) (hp : ¬ 11 ≤ p) : s_X10_account f q h i p = s_X10_account f' q h' i' p := by
  unfold s_X10_account
  rw [if_neg (c := p = 11) (fun z => hp (by rw [z]; decide)), if_neg (c := p = 12) (fun z => hp (by rw [z]; decide)), if_neg (c := p = 11) (fun z => hp (by rw [z]; decide)), if_neg (c := p = 12) (fun z => hp (by rw [z]; decide))]
theorem as_29 {q : qQV} (hq : Iv q) : ∀ (n : Nat) (x1 : Int64) (x3 : Int32) (u u' : qQV) (a b : qNV), a.1.length = 54 → b.1.length = 54 → (s_L_asks_L29 f q h i n x1 x3 u a).1 = (s_L_asks_L29 f' q h' i' n x1 x3 u' b).1 := by
  intro n
  induction n with
  | zero => intro x1 x3 u u' a b ha hb; rfl
  | succ n ih =>
    intro x1 x3 u u' a b ha hb
    rw [s_L_asks_L29, s_L_asks_L29, as_acc f f' h h' i i' q 0 (by decide)]
    split
    · exact as_63 f f' h h' i i' hq _ _ _ _ _ _ _ _ ha hb
    · rename_i h1
      rw [as_acc f f' h h' i i' q x3 h1]
      exact ih _ _ _ _ _ _ ha hb
end QAS
def askV (q : qQV) : Int64 := (s_L_asks (0, 0) q qQ0 qH0 qI0 (List.replicate 54 0, 0)).1
theorem ask_eq (f : Int32 × Int32) {q : qQV} (hq : Iv q) (qt : qQV) (h : qHV) (i : qIV) {n : qNV} (hn : n.1.length = 54) : (s_L_asks f q qt h i n).1 = askV q := by
  unfold askV s_L_asks
  exact as_29 f (0, 0) h qH0 i qI0 hq _ _ _ _ _ _ _ hn (by decide)
theorem roots_L (v : qBV) (p1 : Int32) (m : Nat) (hm : m ≤ 16) (hc : v.2.2 = nI m) : ∀ (n k s : Nat), k ≤ m → s ≤ k → iB 0 m (s_X1_hangingAtOnce_L4 v p1 n (nI s) (nI k)) := by
  intro n
  induction n with
  | zero => intro k s hk hs; rw [s_X1_hangingAtOnce_L4, id0]; exact ⟨by decide, by rw [i0]; omega⟩
  | succ n ih =>
    intro k s hk hs
    rw [s_X1_hangingAtOnce_L4, hc]
    split
    · unfold iB
      rw [nI_toInt (by omega)]
      omega
    · rename_i h3
      rw [i_le, nI_toInt (by omega), nI_toInt (by omega)] at h3
      rw [show nI k + 1 = nI (k + 1) from (nI_succ k).symm]
      split
      · rw [show nI s + 1 = nI (s + 1) from (nI_succ s).symm]
        exact ih _ _ (by omega) (by omega)
      · rw [Int32.add_zero]
        exact ih _ _ (by omega) (by omega)
theorem roots_B {v : qBV} (h : bOk v) : ∃ m, m ≤ 16 ∧ s_X1_countRoots v = nI m := by
  obtain ⟨m, hm, hc⟩ := iB_nat (n := 16) h.2.2 (by decide)
  obtain ⟨k, h1, h2⟩ := iB_nat (roots_L v (-1) m hm hc (v.2.2.toInt.toNat + 1) 0 0 (by omega) (by omega)) (by omega)
  exact ⟨k, by omega, h2⟩
theorem deps_L (v : qBV) (m : Nat) (hm : m ≤ 16) (hc : v.2.2 = nI m) : ∀ (n k : Nat) (x : Int32), k ≤ m → iB 0 (16 * k) x → iB 0 256 (s_X1_sumOfDepths_L4 v n x (nI k)) := by
  intro n
  induction n with
  | zero => intro k x hk hs; rw [s_X1_sumOfDepths_L4, id0]; decide
  | succ n ih =>
    intro k x hk hs
    rw [s_X1_sumOfDepths_L4, hc]
    split
    · exact ⟨by omega, by omega⟩
    · rename_i h3
      rw [i_le, nI_toInt (by omega), nI_toInt (by omega)] at h3
      rw [show nI k + 1 = nI (k + 1) from (nI_succ k).symm]
      have hd := depth_B v (nI k)
      refine ih _ _ (by omega) ?_
      unfold iB
      rw [i_add (by omega) (by omega)]
      omega
theorem deps_B {v : qBV} (h : bOk v) : ∃ m, m ≤ 256 ∧ s_X1_sumOfDepths v = nI m := by
  obtain ⟨m, hm, hc⟩ := iB_nat (n := 16) h.2.2 (by decide)
  exact iB_nat (deps_L v m hm hc (v.2.2.toInt.toNat + 1) 0 0 (by omega) (by decide)) (by omega)
theorem nan_d : ∀ n : Fin 17, ∀ m : Fin 17, 0 < n.1 → FP.ddiv (FP.i2d (nI m.1)) (FP.i2d (nI n.1)) &&& 0x7fffffffffffffff ≤ 0x7ff0000000000000 := by decide +kernel
theorem nan_f : ∀ n : Fin 17, ∀ m : Fin 257, 0 < n.1 → FP.fdiv (FP.i2f (nI m.1)) (FP.i2f (nI n.1)) &&& 0x7fffffff ≤ 0x7f800000 := by decide +kernel
theorem nan_no {q : qQV} (h : Iv q) : qNaN q := by
  obtain ⟨n, hn, hc⟩ := iB_nat (n := 16) h.1.2.2 (by decide)
  obtain ⟨m, hm, hr⟩ := roots_B h.1
  obtain ⟨d, hd, hs⟩ := deps_B h.1
  have h0 : (0 : Int32) < q.1.2.2 → 0 < n := fun z => by
    rw [hc, i_lt, i0, nI_toInt (by omega)] at z
    omega
  exact ⟨fun z => by rw [hr, hc]; exact nan_d ⟨n, by omega⟩ ⟨m, by omega⟩ (h0 z), fun z => by rw [hs, hc]; exact nan_f ⟨n, by omega⟩ ⟨d, by omega⟩ (h0 z)⟩
