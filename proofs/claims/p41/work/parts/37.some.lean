/-! LAW: at, some -/
theorem dL_reads_0 : decode cL_reads 0 = .ok (.iconst 0, 1) := by decide +kernel
theorem dL_reads_1 : decode cL_reads 1 = .ok (.istore_n 2, 1) := by decide +kernel
theorem dL_reads_2 : decode cL_reads 2 = .ok (.iload_n 2, 1) := by decide +kernel
theorem dL_reads_3 : decode cL_reads 3 = .ok (.aload_n 1, 1) := by decide +kernel
theorem dL_reads_4 : decode cL_reads 4 = .ok (.invokevirtual 7, 3) := by decide +kernel
theorem dL_reads_7 : decode cL_reads 7 = .ok (.if_icmp .ge 27, 3) := by decide +kernel
theorem dL_reads_10 : decode cL_reads 10 = .ok (.aload_n 0, 1) := by decide +kernel
theorem dL_reads_11 : decode cL_reads 11 = .ok (.aload_n 1, 1) := by decide +kernel
theorem dL_reads_12 : decode cL_reads 12 = .ok (.iload_n 2, 1) := by decide +kernel
theorem dL_reads_13 : decode cL_reads 13 = .ok (.invokevirtual 13, 3) := by decide +kernel
theorem dL_reads_16 : decode cL_reads 16 = .ok (.invokevirtual 17, 3) := by decide +kernel
theorem dL_reads_19 : decode cL_reads 19 = .ok (.iload_n 2, 1) := by decide +kernel
theorem dL_reads_20 : decode cL_reads 20 = .ok (.iconst 1, 1) := by decide +kernel
theorem dL_reads_21 : decode cL_reads 21 = .ok (.iadd, 1) := by decide +kernel
theorem dL_reads_22 : decode cL_reads 22 = .ok (.if_icmp .eq 6, 3) := by decide +kernel
theorem dL_reads_25 : decode cL_reads 25 = .ok (.bipush (-99), 2) := by decide +kernel
theorem dL_reads_27 : decode cL_reads 27 = .ok (.ireturn, 1) := by decide +kernel
theorem dL_reads_28 : decode cL_reads 28 = .ok (.iinc 2 1, 3) := by decide +kernel
theorem dL_reads_31 : decode cL_reads 31 = .ok (.goto (-29), 3) := by decide +kernel
theorem dL_reads_34 : decode cL_reads 34 = .ok (.aload_n 0, 1) := by decide +kernel
theorem dL_reads_35 : decode cL_reads 35 = .ok (.invokevirtual 23, 3) := by decide +kernel
theorem dL_reads_38 : decode cL_reads 38 = .ok (.ireturn, 1) := by decide +kernel
/-- a number of the script, 0 behind its end -/
def scAt (n : Nat) (g : Nat → Int32) (i : Int32) : Int32 := if Int32.ofNat n ≤ i then 0 else g i.toNatClampNeg
abbrev qSc (t n : Nat) (g : Nat → Int32) (A : Nat → Prop) (U : State) (H : Heap) : Prop := va_T .int t n (fun j => .int (g j)) A U H
set_option maxHeartbeats 4000000 in
theorem j_at (l : Launch) {t n : Nat} {g : Nat → Int32} (hn : n < 2 ^ 31) (i : Int32) (h0 : ¬ i < 0) : jMet l yL_at (qws yL_at cL_at 2 (some .int)) (qRm 0 0) (fun U H => qSc t n g qNo U H) [.ref t, .int i] (some (.int (scAt n g i))) := by
  refine j_head (by decide +kernel) ?_ (Nat.le_of_ble_eq_true rfl)
  intro p e s m below meth c ls hx hb hret hlk hml hown hg hP hl
  have hl : lv_has ls 2 [(0, .ref t), (1, .int i)] := hl
  refine lv_iload_n hx hb dL_at_0 rfl (lv_at hl 1 rfl) ?_
  refine lv_aload_n hx hb dL_at_1 rfl (lv_at hl 0 rfl) ?_
  refine va_tlen hx hb hP va_S.rf rfl dL_at_2 ?_
  refine lv_icmp_ge (tgt := 12) hx hb dL_at_3 (by decide) (fun c1 => ?_) (fun c1 => ?_)
  · refine lv_iconst (v := 0) hx hb dL_at_12 (by decide) ?_
    rw [scAt, if_pos c1]
    exact j_iret hx hb hret hlk dL_at_13
  · refine lv_aload_n hx hb dL_at_6 rfl (lv_at hl 0 rfl) ?_
    refine lv_iload_n hx hb dL_at_7 rfl (lv_at hl 1 rfl) ?_
    have hin : vp_in i n := by
      have h9 := q_vpin (L := List.replicate n (0 : Int32)) (by rw [List.length_replicate]; exact hn) (q_nlt h0) (by rw [List.length_replicate]; exact q_nle c1)
      rwa [List.length_replicate] at h9
    refine va_ti hx hb hP va_S.rf hin (v := .int (g i.toNatClampNeg)) rfl dL_at_8 ?_
    refine lv_goto (tgt := 13) hx hb dL_at_9 (by decide) ?_
    rw [scAt, if_neg c1]
    exact j_iret hx hb hret hlk dL_at_13
def s_some (v n : Int32) : Int32 := if 0 ≤ v - v / n * n then v - v / n * n else v - v / n * n + n
set_option maxHeartbeats 4000000 in
theorem j_some (l : Launch) (v n : Int32) (hn : ¬ n = 0) : jMet l yL_some (qws yL_some cL_some 3 (some .int)) (qRm 0 0) (fun _ _ => True) [.int v, .int n] (some (.int (s_some v n))) := by
  refine j_head (by decide +kernel) ?_ (Nat.le_of_ble_eq_true rfl)
  intro p e s m below meth c ls hx hb hret hlk hml hown hg hP hl
  have hl : lv_has ls 3 [(0, .int v), (1, .int n)] := hl
  refine lv_iload_n hx hb dL_some_0 rfl (lv_at hl 0 rfl) ?_
  refine lv_iload_n hx hb dL_some_1 rfl (lv_at hl 1 rfl) ?_
  refine lv_irem hx hb dL_some_2 hn ?_
  rw [s_some]
  generalize v - v / n * n = r
  refine lv_istore_n (lv' := [(2, .int r), (0, .int v), (1, .int n)]) hx hb dL_some_3 rfl hl (by decide) rfl (fun ls hl => ?_)
  refine lv_iload_n hx hb dL_some_4 rfl (lv_at hl 0 rfl) ?_
  refine lv_if_ge (tgt := 14) hx hb dL_some_5 (by decide) (fun c1 => ?_) (fun c1 => ?_)
  · rw [if_pos c1]
    refine lv_iload_n hx hb dL_some_14 rfl (lv_at hl 0 rfl) ?_
    exact j_iret hx hb hret hlk dL_some_15
  · rw [if_neg c1]
    refine lv_iload_n hx hb dL_some_8 rfl (lv_at hl 0 rfl) ?_
    refine lv_iload_n hx hb dL_some_9 rfl (lv_at hl 2 rfl) ?_
    refine lv_iadd hx hb dL_some_10 ?_
    refine lv_goto (tgt := 15) hx hb dL_some_11 (by decide) ?_
    exact j_iret hx hb hret hlk dL_some_15
theorem q_rem13 (x : Int32) : (x - x / 13 * 13).toInt = x.toInt.tmod 13 := by
  have h1 := Int32.le_toInt x
  have h2 := Int32.toInt_lt x
  have h3 := Int.mul_tdiv_add_tmod x.toInt 13
  have h4 := Int.tmod_lt_of_pos x.toInt (b := 13) (by decide)
  have h5 := Int.lt_tmod_of_pos x.toInt (b := 13) (by decide)
  have h6 : 0 ≤ x.toInt → 0 ≤ x.toInt.tmod 13 := fun h => Int.tmod_nonneg 13 h
  have h7 : x.toInt ≤ 0 → x.toInt.tmod 13 ≤ 0 := fun h => by
    have h8 := Int.tmod_nonneg 13 (a := -x.toInt) (by omega)
    rw [Int.neg_tmod] at h8
    omega
  have e13 : (13 : Int32).toInt = 13 := by decide
  have ed : (x / 13).toInt = x.toInt.tdiv 13 := by
    rw [Int32.toInt_div, e13]
    exact Int.bmod_eq_of_le (by omega) (by omega)
  have em : (x / 13 * 13).toInt = x.toInt.tdiv 13 * 13 := by
    rw [Int32.toInt_mul, ed, e13]
    exact Int.bmod_eq_of_le (by omega) (by omega)
  rw [Int32.toInt_sub, em]
  rw [Int.bmod_eq_of_le (by omega) (by omega)]
  omega
/-- how many blocks a script makes: 4 to 16 -/
theorem s_count (x : Int32) : 4 ≤ ((4 : Int32) + s_some x 13).toInt ∧ ((4 : Int32) + s_some x 13).toInt ≤ 16 := by
  have h4 := Int.tmod_lt_of_pos x.toInt (b := 13) (by decide)
  have h5 := Int.lt_tmod_of_pos x.toInt (b := 13) (by decide)
  have hr := q_rem13 x
  rw [s_some]
  generalize x - x / 13 * 13 = r at hr ⊢
  have e4 : (4 : Int32).toInt = 4 := by decide
  have e13 : (13 : Int32).toInt = 13 := by decide
  have e0 : (0 : Int32).toInt = 0 := by decide
  by_cases c : 0 ≤ r
  · rw [if_pos c, Int32.toInt_add, e4]
    rw [Int32.le_iff_toInt_le, e0] at c
    rw [Int.bmod_eq_of_le (by omega) (by omega)]
    omega
  · rw [if_neg c, Int32.toInt_add, Int32.toInt_add, e4, e13]
    rw [Int32.le_iff_toInt_le, e0] at c
    rw [Int.bmod_eq_of_le (n := r.toInt + 13) (by omega) (by omega)]
    rw [Int.bmod_eq_of_le (by omega) (by omega)]
    omega
theorem s_count_ne (x : Int32) : ¬ (4 : Int32) + s_some x 13 = 0 := by
  intro h
  have h1 := (s_count x).1
  rw [h] at h1
  exact absurd h1 (by decide)
