/-! THE HISTORY as a list; what a change, a text and undo do to it -/
def HI (h : qHV) (Q : List qQV) (c : Nat) : Prop := ∃ nx : Nat, nx < 9 ∧ c ≤ 8 ∧ (∀ k, k < c → Q[k]? = some (h.1 ((nx + 8 - k) % 9))) ∧ h.2.1 = nI nx ∧ h.2.2 = nI c
theorem nx_ok {n : Nat} (h : n < 9) : (0 : Int32) ≤ nI n ∧ nI n < 9 := ⟨nI_pos' (by omega), by rw [i_lt, i9, nI_toInt (by omega)]; omega⟩
theorem draft_eq {h : qHV} {nx : Nat} (hn : nx < 9) (e : h.2.1 = nI nx) (q : qQV) : s_X2_draft h q = (qSlot h.1 nx q, h.2) := by
  unfold s_X2_draft
  rw [e, if_pos (nx_ok hn), nI_clamp (by omega)]
theorem drop_eq {h : qHV} {nx : Nat} (hn : nx < 9) (e : h.2.1 = nI nx) (q : qQV) : s_X2_dropDraft h q = h.1 nx := by
  unfold s_X2_dropDraft
  rw [e, if_pos (nx_ok hn), nI_clamp (by omega)]
theorem HI.draft {h : qHV} {Q : List qQV} {c : Nat} (H : HI h Q c) (q : qQV) : HI (s_X2_draft h q) Q c := by
  obtain ⟨nx, h1, h2, h3, h4, h5⟩ := H
  refine ⟨nx, h1, h2, fun k hk => ?_, ?_, ?_⟩
  · rw [draft_eq h1 h4, h3 k hk]
    show _ = some (qSlot h.1 nx q _)
    unfold qSlot
    rw [if_neg (by omega)]
  · rw [draft_eq h1 h4]; exact h4
  · rw [draft_eq h1 h4]; exact h5
theorem HI.dropped {h : qHV} {Q : List qQV} {c : Nat} (H : HI h Q c) (q u : qQV) : s_X2_dropDraft (s_X2_draft h q) u = q := by
  obtain ⟨nx, h1, h2, h3, h4, h5⟩ := H
  rw [draft_eq h1 h4, drop_eq (h := (qSlot h.1 nx q, h.2)) (nx := nx) h1 h4]
  show qSlot h.1 nx q nx = q
  unfold qSlot
  rw [if_pos rfl]
theorem keep_c {c : Nat} (h : c ≤ 8) : (if (8 : Int32) < nI c + 1 then 8 else nI c + 1) = nI (min (c + 1) 8) := by
  rw [show nI c + 1 = nI (c + 1) from (nI_succ c).symm]
  by_cases h8 : c = 8
  · subst h8
    decide
  · rw [if_neg (by rw [i_lt, i8, nI_toInt (by omega)]; omega), Nat.min_eq_left (by omega)]
theorem HI.keep {h : qHV} {Q : List qQV} {c : Nat} (H : HI h Q c) (q : qQV) : HI (s_X2_keepDraft (s_X2_draft h q)) (q :: Q) (min (c + 1) 8) := by
  obtain ⟨nx, h1, h2, h3, h4, h5⟩ := H
  rw [draft_eq h1 h4]
  have e : s_X2_keepDraft (qSlot h.1 nx q, h.2) = (qSlot h.1 nx q, nI ((nx + 1) % 9), nI (min (c + 1) 8)) := by
    unfold s_X2_keepDraft
    show (if 9 ≤ h.2.1 + 1 then _ else _) = _
    rw [h4, h5, keep_c h2, show nI nx + 1 = nI (nx + 1) from (nI_succ nx).symm]
    by_cases h9 : nx = 8
    · subst h9
      rfl
    · rw [if_neg (by rw [i_le, i9, nI_toInt (by omega)]; omega), Nat.mod_eq_of_lt (by omega)]
  rw [e]
  refine ⟨(nx + 1) % 9, by omega, by omega, fun k hk => ?_, rfl, rfl⟩
  show _ = some (qSlot h.1 nx q _)
  unfold qSlot
  match k with
  | 0 => rw [if_pos (by omega)]; rfl
  | k + 1 =>
    have h9 := h3 k (by omega)
    rw [List.getElem?_cons_succ, h9]
    rw [if_neg (by omega)]
    have e : (nx + 8 - k) % 9 = ((nx + 1) % 9 + 8 - (k + 1)) % 9 := by omega
    rw [e]
theorem HI.back {h : qHV} {q : qQV} {Q : List qQV} {c : Nat} (H : HI h (q :: Q) (c + 1)) (u : qQV) : ∃ h', s_X2_takeBack h u = (true, h', q) ∧ HI h' Q c := by
  obtain ⟨nx, h1, h2, h3, h4, h5⟩ := H
  have hq := h3 0 (by omega)
  have hq' : h.1 ((nx + 8) % 9) = q := (Option.some.inj hq).symm
  refine ⟨(h.1, nI ((nx + 8) % 9), nI c), ?_, (nx + 8) % 9, by omega, by omega, fun k hk => ?_, rfl, rfl⟩
  · unfold s_X2_takeBack
    rw [h5, if_pos (by rw [i_lt, i0, nI_toInt (by omega)]; omega), h4, show nI (c + 1) - 1 = nI c by rw [nI_succ]; exact Int32.add_sub_cancel _ _]
    by_cases h0 : nx = 0
    · subst h0
      rw [if_pos (by decide)]
      show (true, (h.1, (8 : Int32), nI c), s_X2_dropDraft (h.1, 8, nI c) u) = _
      rw [drop_eq (h := (h.1, (8 : Int32), nI c)) (nx := 8) (by decide) rfl]
      rw [← hq']
      rfl
    · rw [if_neg (by rw [i_le, i0, nI_toInt (by omega)]; omega)]
      have e : nI nx - 1 = nI ((nx + 8) % 9) := by
        rw [show (nx + 8) % 9 = nx - 1 by omega]
        exact pk_sub (a := nx) (b := 1) (by omega)
      rw [e, drop_eq (h := (h.1, nI ((nx + 8) % 9), nI c)) (nx := (nx + 8) % 9) (by omega) rfl, ← hq']
  · have h9 := h3 (k + 1) (by omega)
    rw [List.getElem?_cons_succ] at h9
    rw [h9]
    have e : (nx + 8 - (k + 1)) % 9 = ((nx + 8) % 9 + 8 - k) % 9 := by omega
    rw [e]
theorem HI.none {h : qHV} {Q : List qQV} (H : HI h Q 0) (u : qQV) : s_X2_takeBack h u = (false, h, u) := by
  obtain ⟨nx, h1, h2, h3, h4, h5⟩ := H
  unfold s_X2_takeBack
  rw [h5, if_neg (by decide)]
theorem HI.forget {h : qHV} {Q : List qQV} {c : Nat} (H : HI h Q c) : HI (s_X2_forget h) [] 0 := by
  obtain ⟨nx, h1, h2, h3, h4, h5⟩ := H
  exact ⟨nx, h1, by omega, fun k hk => absurd hk (Nat.not_lt_zero k), h4, rfl⟩
/-- what an answer x says of the state behind it: refused, all is as it was; done, the state before is to be undone to -/
def Chg (q : qQV) (Q : List qQV) (c : Nat) (x : Int32) (q' : qQV) (h' : qHV) : Prop := (x < 0 → q' = q ∧ HI h' Q c) ∧ (0 ≤ x → Iv q' ∧ HI h' (q :: Q) (min (c + 1) 8))
theorem chg_of {h : qHV} {Q : List qQV} {c : Nat} {q q' : qQV} {x : Int32} (f : Int32 × Int32) (H : HI h Q c) (ho : OpOk q x q') : Chg q Q c (s_X10_settled f (s_X2_draft h q) x).1 q' (s_X10_settled f (s_X2_draft h q) x).2 := by
  unfold s_X10_settled
  split
  · rename_i h1
    exact ⟨fun _ => ⟨ho.1 h1, H.draft q⟩, fun h2 => absurd h1 (by rw [i_lt]; rw [i_le] at h2; exact Int.not_lt.mpr h2)⟩
  · rename_i h1
    exact ⟨fun h2 => absurd h2 h1, fun h2 => ⟨ho.2 h2, H.keep q⟩⟩
theorem chg_block {h : qHV} {Q : List qQV} {c : Nat} {q : qQV} (f : Int32 × Int32) (rs : qRV) (x : Int32) (H : HI h Q c) (hq : Iv q) : Chg q Q c (s_X10_block f q h rs x).1 (s_X10_block f q h rs x).2.1 (s_X10_block f q h rs x).2.2.1 := chg_of f H (op_add rs x hq)
theorem chg_hang {h : qHV} {Q : List qQV} {c : Nat} {q : qQV} (f : Int32 × Int32) (rs : qRV) (x y : Int32) (H : HI h Q c) (hq : Iv q) : Chg q Q c (s_X10_hang f q h rs x y).1 (s_X10_hang f q h rs x y).2.1 (s_X10_hang f q h rs x y).2.2.1 := chg_of f H (op_hang rs x y hq)
theorem chg_cut {h : qHV} {Q : List qQV} {c : Nat} {q : qQV} (f : Int32 × Int32) (rs : qRV) (x : Int32) (H : HI h Q c) (hq : Iv q) : Chg q Q c (s_X10_cut f q h rs x).1 (s_X10_cut f q h rs x).2.1 (s_X10_cut f q h rs x).2.2.1 := chg_of f H (op_cut rs x hq)
theorem chg_walk {h : qHV} {Q : List qQV} {c : Nat} {q : qQV} (f : Int32 × Int32) (x : Int32) (H : HI h Q c) (hq : Iv q) : Chg q Q c (s_X10_walk f q h x).1 (s_X10_walk f q h x).2.1 (s_X10_walk f q h x).2.2 := chg_of f H (op_walk x hq)
theorem chg_up {h : qHV} {Q : List qQV} {c : Nat} {q : qQV} (f : Int32 × Int32) (x : Int32) (H : HI h Q c) (hq : Iv q) : Chg q Q c (s_X10_up f q h x).1 (s_X10_up f q h x).2.1 (s_X10_up f q h x).2.2 := chg_of f H (op_up x hq)
theorem chg_weigh {h : qHV} {Q : List qQV} {c : Nat} {q : qQV} (f : Int32 × Int32) (rs : qRV) (x y : Int32) (H : HI h Q c) (hq : Iv q) : Chg q Q c (s_X10_weigh f q h rs x y).1 (s_X10_weigh f q h rs x y).2.1 (s_X10_weigh f q h rs x y).2.2.1 := chg_of f H (op_weigh rs x y hq)
theorem chg_sledge {h : qHV} {Q : List qQV} {c : Nat} {q : qQV} (f : Int32 × Int32) (rs : qRV) (x : Int32) (H : HI h Q c) (hq : Iv q) : Chg q Q c (s_X10_sledge f q h rs x).1 (s_X10_sledge f q h rs x).2.1 (s_X10_sledge f q h rs x).2.2.1 := chg_of f H (op_sledge rs x hq)
theorem chg_pull {h : qHV} {Q : List qQV} {c : Nat} {q : qQV} (f : Int32 × Int32) (rs : qRV) (H : HI h Q c) (hq : Iv q) : Chg q Q c (s_X10_pull f q h rs).1 (s_X10_pull f q h rs).2.1 (s_X10_pull f q h rs).2.2.1 := chg_of f H (op_pull rs hq)
/-! the number of commands of a text -/
def cm (v : qIV) : Int32 := v.2.2.2.2.2.1
theorem cm_sign (v : qIV) (x : Int32) : cm (s_X3_takeSign v x).2 = cm v := by
  unfold s_X3_takeSign
  split <;> rfl
theorem cm_digit (v : qIV) : cm (s_X3_takeDigit v).2 = cm v := by
  unfold s_X3_takeDigit
  split
  · rfl
  · split <;> rfl
theorem cm_number (v : qIV) : cm (s_X3_takeNumber v).2 = cm v := by
  unfold s_X3_takeNumber
  have h1 := cm_digit v
  have h2 := cm_digit (s_X3_takeDigit v).2
  generalize s_X3_takeDigit (s_X3_takeDigit v).2 = A at h2 ⊢
  generalize s_X3_takeDigit v = B at h1 h2 ⊢
  split
  · split
    · exact h2.trans h1
    · exact h2.trans h1
  · exact h1
theorem iB_e {a b : Int32} {lo hi : Int} (e : a = b) (h : iB lo hi b) : iB lo hi a := by
  rw [e]
  exact h
theorem cm_place (v : qIV) (x : Int32) : cm (qPlace v x) = cm v := rfl
theorem cm_word_L (v : qIV) : ∀ (n j : Nat) (x : Int32), cm (s_X3_takeWord_L v n j x).2 = cm v := by
  intro n
  induction n with
  | zero => intro j x; rfl
  | succ n ih =>
    intro j x
    rw [s_X3_takeWord_L]
    split
    · rfl
    · exact ih _ _
theorem cm_word (v : qIV) : cm (s_X3_takeWord v).2 = cm v := cm_word_L v _ _ _
theorem cm_add {v : qIV} (k : Nat) (x y : Int32) (h : iB 0 60 (cm v)) : iB 0 60 (cm (s_X3_addCommand v k x y)) := by
  unfold s_X3_addCommand
  split
  · exact h
  · split
    · exact h
    · rename_i h2
      rw [i_le, show (60 : Int32).toInt = 60 by decide] at h2
      have h' : iB 0 60 v.2.2.2.2.2.1 := h
      show iB 0 60 (v.2.2.2.2.2.1 + 1)
      unfold iB
      rw [i_add (by rw [i1]; omega) (by rw [i1]; omega), i1]
      omega
theorem cm_tc57 {v : qIV} (k : Nat) (x y : Int32) (h : iB 0 60 (cm v)) : iB 0 60 (cm (s_tc57 v k x y).2) := by
  unfold s_tc57
  split
  · exact h
  · split
    · exact cm_add k x y h
    · exact h
theorem cm_tc27 {v : qIV} (k : Nat) (x : Int32) (h : iB 0 60 (cm v)) : iB 0 60 (cm (s_tc27 v k x).2) := by
  unfold s_tc27
  have hs := cm_sign v 32
  generalize s_X3_takeSign v 32 = A at hs ⊢
  have hn := cm_number A.2
  generalize s_X3_takeNumber A.2 = B at hn ⊢
  split
  · exact cm_tc57 _ _ _ h
  · split
    · exact cm_tc57 _ _ _ h
    · split
      · exact cm_tc57 _ _ _ (iB_e hs h)
      · exact cm_tc57 _ _ _ (iB_e (hn.trans hs) h)
theorem cm_command {v : qIV} (h : iB 0 60 (cm v)) : iB 0 60 (cm (s_X3_takeCommand v).2) := by
  unfold s_X3_takeCommand
  have hw := cm_word v
  generalize s_X3_takeWord v = A at hw ⊢
  have hn := cm_number A.2
  generalize s_X3_takeNumber A.2 = B at hn ⊢
  split
  · exact iB_e hw h
  · split
    · exact cm_tc27 _ _ (iB_e hw h)
    · exact cm_tc27 _ _ (iB_e (hn.trans hw) h)
theorem cm_apt_L : ∀ (n : Nat) (v : qIV), iB 0 60 (cm v) → iB 0 60 (cm (s_X3_takeApart_L n v).2) := by
  intro n
  induction n with
  | zero => intro v h; exact h
  | succ n ih =>
    intro v h
    have h1 := cm_command h
    rw [s_X3_takeApart_L]
    generalize s_X3_takeCommand v = A at h1 ⊢
    split
    · exact h1
    · split
      · have h2 := iB_e (cm_sign A.2 59) h1
        generalize s_X3_takeSign A.2 59 = B at h2 ⊢
        split
        · exact h2
        · exact ih _ h2
      · exact h1
theorem cm_apt (v : qIV) : iB 0 60 (cm (s_X3_takeApart v).2) := by
  unfold s_X3_takeApart
  exact cm_apt_L 60 (qPlace0 v) (show iB 0 60 0 by decide)
/-- a text: as a change -/
theorem read_L {h : qHV} {Q : List qQV} {c : Nat} {q0 : qQV} (f : Int32 × Int32) (H : HI h Q c) (i : qIV) (m : Nat) (hm : m ≤ 60) (hc : cm i = nI m) : ∀ (n k : Nat) (q : qQV) (rs : qRV), n + k = m + 1 → k ≤ m → Iv q → Chg q0 Q c (s_X10_read_L f (s_X2_draft h q0) i n (nI k) q rs).1 (s_X10_read_L f (s_X2_draft h q0) i n (nI k) q rs).2.2.1 (s_X10_read_L f (s_X2_draft h q0) i n (nI k) q rs).2.2.2.1 ∧ (s_X10_read_L f (s_X2_draft h q0) i n (nI k) q rs).2.1 = f := by
  intro n
  induction n with
  | zero => intro k q rs h1 h2; omega
  | succ n ih =>
    intro k q rs h1 h2 hq
    have ek := nI_toInt (n := k) (by omega)
    have em := nI_toInt (n := m) (by omega)
    rw [s_X10_read_L]
    split
    · refine ⟨⟨fun h3 => absurd h3 ?_, fun _ => ⟨hq, H.keep q0⟩⟩, rfl⟩
      show ¬ cm i < 0
      rw [hc, i_lt, i0, em]
      omega
    · rename_i h3
      have h3' : ¬ cm i ≤ nI k := h3
      rw [hc, i_le, em, ek] at h3'
      have ho : OpOk q (s_X10_carryOut q i rs (nI k)).1 (s_X10_carryOut q i rs (nI k)).2.1 := by
        unfold s_X10_carryOut
        split
        · exact OpOk.n1
        · exact op_co _ rs _ _ hq
      split
      · rename_i h4
        rw [show nI k + 1 = nI (k + 1) from (nI_succ k).symm]
        exact ih (k + 1) _ _ (by omega) (by omega) (ho.2 h4)
      · have hn : ∀ z : Int32, z = -3 → ¬ 0 ≤ z := fun z hz => by rw [hz]; decide
        split
        · exact ⟨⟨fun _ => ⟨H.dropped q0 _, H.draft q0⟩, fun h5 => absurd h5 (hn _ rfl)⟩, rfl⟩
        · exact ⟨⟨fun _ => ⟨H.dropped q0 _, H.draft q0⟩, fun h5 => absurd h5 (hn _ rfl)⟩, rfl⟩
theorem chg_read {h : qHV} {Q : List qQV} {c : Nat} {q : qQV} (f : Int32 × Int32) (i : qIV) (rs : qRV) (H : HI h Q c) (hq : Iv q) : Chg q Q c (s_X10_read f q h i rs).1 (s_X10_read f q h i rs).2.2.1 (s_X10_read f q h i rs).2.2.2.1 ∧ (s_X10_read f q h i rs).2.1.2 = f.2 := by
  unfold s_X10_read s_X10_read1
  have ha := cm_apt i
  generalize s_X3_takeApart i = A at ha ⊢
  split
  · exact ⟨⟨fun _ => ⟨rfl, H⟩, fun h5 => absurd h5 (show ¬ (0 : Int32) ≤ -2 by decide)⟩, rfl⟩
  · have hb : iB 0 60 (cm (s_X3_makeEmpty A.2)) := ha
    obtain ⟨m, hm, hc⟩ := iB_nat (n := 60) hb (by decide)
    have h9 := read_L (q0 := q) f H (s_X3_makeEmpty A.2) m hm hc (m + 1) 0 q rs rfl (by omega) hq
    generalize s_X3_makeEmpty A.2 = I at h9 hc ⊢
    have ef : I.2.2.2.2.2.1.toInt.toNat + 1 = m + 1 := by
      show (cm I).toInt.toNat + 1 = m + 1
      rw [hc, nI_toInt (by omega)]
      omega
    rw [ef]
    exact ⟨h9.1, by rw [show (0 : Int32) = nI 0 from rfl, h9.2]⟩
theorem chg_reads_L {h : qHV} {Q : List qQV} {c : Nat} {q : qQV} (L : List Int32) (f : Int32 × Int32) (rs : qRV) (H : HI h Q c) (hq : Iv q) : ∀ (n j : Nat) (i : qIV), Chg q Q c (s_reads_L L f q h rs n j i).1 (s_reads_L L f q h rs n j i).2.2.1 (s_reads_L L f q h rs n j i).2.2.2.1 ∧ (s_reads_L L f q h rs n j i).2.1.2 = f.2 := by
  intro n
  induction n with
  | zero => intro j i; rw [s_reads_L]; exact chg_read f i rs H hq
  | succ n ih =>
    intro j i
    rw [s_reads_L]
    split
    · exact ih _ _
    · exact ⟨⟨fun _ => ⟨rfl, H⟩, fun h5 => absurd h5 (show ¬ (0 : Int32) ≤ -99 by decide)⟩, rfl⟩
theorem chg_reads {h : qHV} {Q : List qQV} {c : Nat} {q : qQV} (L : List Int32) (f : Int32 × Int32) (i : qIV) (rs : qRV) (H : HI h Q c) (hq : Iv q) : Chg q Q c (s_L_reads L f q h i rs).1 (s_L_reads L f q h i rs).2.2.1 (s_L_reads L f q h i rs).2.2.2.1 ∧ (s_L_reads L f q h i rs).2.1.2 = f.2 := by
  unfold s_L_reads
  exact chg_reads_L L f rs H hq _ _ _
