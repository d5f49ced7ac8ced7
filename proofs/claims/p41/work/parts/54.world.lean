/-! THE START: what the tables and the narrow row give of the world -/
def NT : List Cond := flatC (Jvm.Cond.and given_1 narrow_1)
def strOk (base : Nat) (own : String) (idx : Nat) (L : List Int32) : Bool :=
  decide (NT[base]? = some (.exactly (.string own idx) "java/lang/String")) && decide (NT[base + 1]? = some (.eq (.field (.string own idx) "java/lang/String" "coder" "B") (.int 0))) && decide (NT[base + 2]? = some (.arrayOf (.field (.string own idx) "java/lang/String" "value" "[B") .byte)) && decide (NT[base + 3]? = some (.eq (.length (.field (.string own idx) "java/lang/String" "value" "[B")) (.int (Int32.ofNat L.length)))) && (List.range L.length).all fun j => decide (NT[base + 4 + j]? = some (.eq (.elem (.field (.string own idx) "java/lang/String" "value" "[B") (.int (Int32.ofNat j))) (.int (L.getD j 0))))
section QW
variable {args : Array Value} {s : State} {A : Nat → Prop}
theorem nt_at (hs : ∀ w ∈ NT, w.before args s = true) {i : Nat} {w : Cond} (h : NT[i]? = some w) : w.before args s = true := hs w (List.mem_of_getElem? h)
theorem strOf (hs : ∀ w ∈ NT, w.before args s = true) {base idx : Nat} {own : String} {L : List Int32} (hk : strOk base own idx L = true) (hL : L.length < 2 ^ 31) (hA : ∀ a : Nat, a < s.heap.size → ¬ A a) : ∃ a t : Nat, (Term.string own idx).eval args s none [] s = some (.ref a) ∧ zStr A a t L s s.heap := by
  simp only [strOk, Bool.and_eq_true, decide_eq_true_eq, List.all_eq_true, List.mem_range] at hk
  obtain ⟨⟨⟨⟨h1, h2⟩, h3⟩, h4⟩, h5⟩ := hk
  obtain ⟨a, c, cA, kA, q1, q2, q3, q4, q5, q6, -⟩ := Cond.exactly_spec (args := args) (first := s) (o := none) (s := s) (idx := []) (t := .string own idx) (cls := "java/lang/String") (nt_at hs h1)
  obtain ⟨t, ht, hT⟩ := va_Tof (f := fun j => .int (L.getD j 0)) (A := A) hL (nt_at hs h3) (va_eqt (nt_at hs h4)) (fun j hj => va_eqt (nt_at hs (h5 j hj))) hA
  exact ⟨a, t, q1, ⟨cA, q3, q5, by rw [q6]; exact q2, hA a (Array.getElem?_eq_some_iff.mp q3).1⟩, vk_OFof q1 (va_eqt (nt_at hs h2)) hA, vk_OFof q1 ht hA, hT⟩
def wordOk (base : Nat) (nm : String) (k idx : Nat) : Bool :=
  decide (NT[base]? = some (.exactly (.static "QuarryRopes$Word" nm "LQuarryRopes$Word;") "QuarryRopes$Word")) && decide (NT[base + 1]? = some (.eq (.field (.static "QuarryRopes$Word" nm "LQuarryRopes$Word;") "java/lang/Enum" "ordinal" "I") (.int (nI k)))) && decide (NT[base + 2]? = some (.eq (.field (.static "QuarryRopes$Word" nm "LQuarryRopes$Word;") "QuarryRopes$Word" "text" "Ljava/lang/String;") (.string "QuarryRopes$Word" idx))) && decide (NT[base + 3]? = some (.eq (.field (.static "QuarryRopes$Word" nm "LQuarryRopes$Word;") "QuarryRopes$Word" "numbers" "I") (.int (qWn k)))) && decide (NT[9 + k]? = some (.eq (.elem (.static "QuarryRopes" "WORDS" "[LQuarryRopes$Word;") (.int (Int32.ofNat k))) (.static "QuarryRopes$Word" nm "LQuarryRopes$Word;")))
abbrev WdP (A : Nat → Prop) (args : Array Value) (s : State) (k : Nat) (q : Nat × Nat × Nat) : Prop := (Term.elem (.static "QuarryRopes" "WORDS" "[LQuarryRopes$Word;") (.int (Int32.ofNat k))).eval args s none [] s = some (.ref q.1) ∧ va_O RX9 q.1 A s s.heap ∧ va_OF "java/lang/Enum" "ordinal" "I" (.int (nI k)) q.1 A s s.heap ∧ va_OF RX9 "numbers" "I" (.int (qWn k)) q.1 A s s.heap ∧ va_OF RX9 "text" "Ljava/lang/String;" (.ref q.2.1) q.1 A s s.heap ∧ zStr A q.2.1 q.2.2 (qWt k) s s.heap
theorem wordOf (hs : ∀ w ∈ NT, w.before args s = true) {base base2 idx k : Nat} {nm : String} (hk : wordOk base nm k idx = true) (hk2 : strOk base2 "QuarryRopes$Word" idx (qWt k) = true) (hA : ∀ a : Nat, a < s.heap.size → ¬ A a) : ∃ q : Nat × Nat × Nat, WdP A args s k q := by
  simp only [wordOk, Bool.and_eq_true, decide_eq_true_eq] at hk
  obtain ⟨⟨⟨⟨h1, h2⟩, h3⟩, h4⟩, h5⟩ := hk
  obtain ⟨t, v, e1, e2⟩ := strOf hs hk2 (qWt_lt k) hA
  obtain ⟨a, c, cA, kA, q1, q2, q3, q4, q5, q6, -⟩ := Cond.exactly_spec (args := args) (first := s) (o := none) (s := s) (idx := []) (t := .static "QuarryRopes$Word" nm "LQuarryRopes$Word;") (cls := "QuarryRopes$Word") (nt_at hs h1)
  exact ⟨(a, t, v), va_eqv (nt_at hs h5) q1, ⟨cA, q3, q5, by rw [q6]; exact q2, hA a (Array.getElem?_eq_some_iff.mp q3).1⟩, vk_OFof q1 (va_eqt (nt_at hs h2)) hA, vk_OFof q1 (va_eqt (nt_at hs h4)) hA, vk_OFof q1 (va_eqv (nt_at hs h3) e1) hA, e2⟩
theorem wd_0 : wordOk 239 "BLOCK" 0 56 = true ∧ strOk 426 "QuarryRopes$Word" 56 (qWt 0) = true := by decide +kernel
theorem wd_1 : wordOk 243 "HANG" 1 62 = true ∧ strOk 443 "QuarryRopes$Word" 62 (qWt 1) = true := by decide +kernel
theorem wd_2 : wordOk 248 "CUT" 2 65 = true ∧ strOk 460 "QuarryRopes$Word" 65 (qWt 2) = true := by decide +kernel
theorem wd_3 : wordOk 254 "WALK" 3 68 = true ∧ strOk 477 "QuarryRopes$Word" 68 (qWt 3) = true := by decide +kernel
theorem wd_4 : wordOk 261 "UP" 4 71 = true ∧ strOk 496 "QuarryRopes$Word" 71 (qWt 4) = true := by decide +kernel
theorem wd_5 : wordOk 269 "WEIGH" 5 74 = true ∧ strOk 514 "QuarryRopes$Word" 74 (qWt 5) = true := by decide +kernel
theorem wd_6 : wordOk 278 "SLEDGE" 6 77 = true ∧ strOk 536 "QuarryRopes$Word" 77 (qWt 6) = true := by decide +kernel
theorem wd_7 : wordOk 288 "PULL" 7 80 = true ∧ strOk 560 "QuarryRopes$Word" 80 (qWt 7) = true := by decide +kernel
theorem words_all (hs : ∀ w ∈ NT, w.before args s = true) (hA : ∀ a : Nat, a < s.heap.size → ¬ A a) : ∀ k : Nat, ∃ q : Nat × Nat × Nat, k < 8 → WdP A args s k q := by
  intro k
  match k with
  | 0 => obtain ⟨q, h⟩ := wordOf hs wd_0.1 wd_0.2 hA; exact ⟨q, fun _ => h⟩
  | 1 => obtain ⟨q, h⟩ := wordOf hs wd_1.1 wd_1.2 hA; exact ⟨q, fun _ => h⟩
  | 2 => obtain ⟨q, h⟩ := wordOf hs wd_2.1 wd_2.2 hA; exact ⟨q, fun _ => h⟩
  | 3 => obtain ⟨q, h⟩ := wordOf hs wd_3.1 wd_3.2 hA; exact ⟨q, fun _ => h⟩
  | 4 => obtain ⟨q, h⟩ := wordOf hs wd_4.1 wd_4.2 hA; exact ⟨q, fun _ => h⟩
  | 5 => obtain ⟨q, h⟩ := wordOf hs wd_5.1 wd_5.2 hA; exact ⟨q, fun _ => h⟩
  | 6 => obtain ⟨q, h⟩ := wordOf hs wd_6.1 wd_6.2 hA; exact ⟨q, fun _ => h⟩
  | 7 => obtain ⟨q, h⟩ := wordOf hs wd_7.1 wd_7.2 hA; exact ⟨q, fun _ => h⟩
  | k + 8 => exact ⟨(0, 0, 0), fun h => absurd h (by omega)⟩
theorem cd_0 : strOk 321 "QuarryRopesLaw" (jCi 0) (jCt 0) = true := by decide +kernel
theorem cd_1 : strOk 330 "QuarryRopesLaw" (jCi 1) (jCt 1) = true := by decide +kernel
theorem cd_2 : strOk 340 "QuarryRopesLaw" (jCi 2) (jCt 2) = true := by decide +kernel
theorem cd_3 : strOk 352 "QuarryRopesLaw" (jCi 3) (jCt 3) = true := by decide +kernel
theorem cd_4 : strOk 364 "QuarryRopesLaw" (jCi 4) (jCt 4) = true := by decide +kernel
theorem cd_5 : strOk 373 "QuarryRopesLaw" (jCi 5) (jCt 5) = true := by decide +kernel
theorem cd_6 : strOk 401 "QuarryRopesLaw" (jCi 6) (jCt 6) = true := by decide +kernel
theorem cr_0 : Cond.stringRef RL (jCi 0) (jCx 0) ∈ lw_tbl := (List.mem_of_getElem? (i := 1032) (by decide +kernel))
theorem cr_1 : Cond.stringRef RL (jCi 1) (jCx 1) ∈ lw_tbl := (List.mem_of_getElem? (i := 1155) (by decide +kernel))
theorem cr_2 : Cond.stringRef RL (jCi 2) (jCx 2) ∈ lw_tbl := (List.mem_of_getElem? (i := 1213) (by decide +kernel))
theorem cr_3 : Cond.stringRef RL (jCi 3) (jCx 3) ∈ lw_tbl := (List.mem_of_getElem? (i := 1214) (by decide +kernel))
theorem cr_4 : Cond.stringRef RL (jCi 4) (jCx 4) ∈ lw_tbl := (List.mem_of_getElem? (i := 1223) (by decide +kernel))
theorem cr_5 : Cond.stringRef RL (jCi 5) (jCx 5) ∈ lw_tbl := (List.mem_of_getElem? (i := 1224) (by decide +kernel))
theorem cr_6 : Cond.stringRef RL (jCi 6) (jCx 6) ∈ lw_tbl := (List.mem_of_getElem? (i := 1228) (by decide +kernel))
theorem consts_all (hts : ∀ w ∈ lw_tbl, w.before args s = true) (hs : ∀ w ∈ NT, w.before args s = true) (hA : ∀ a : Nat, a < s.heap.size → ¬ A a) : ∀ k : Nat, ∃ q : Nat × Nat, k < 7 → vk_R RL (jCi k) (jCx k) q.1 s ∧ zStr A q.1 q.2 (jCt k) s s.heap := by
  have one : ∀ k : Nat, Cond.stringRef RL (jCi k) (jCx k) ∈ lw_tbl → (∃ base, strOk base "QuarryRopesLaw" (jCi k) (jCt k) = true) → (jCt k).length < 2 ^ 31 → ∃ q : Nat × Nat, k < 7 → vk_R RL (jCi k) (jCx k) q.1 s ∧ zStr A q.1 q.2 (jCt k) s s.heap := by
    intro k h1 ⟨base, h2⟩ h3
    obtain ⟨a, t, e1, e2⟩ := strOf hs h2 h3 hA
    exact ⟨(a, t), fun _ => ⟨vk_R.of (hts _ h1) e1, e2⟩⟩
  intro k
  match k with
  | 0 => exact one 0 cr_0 ⟨_, cd_0⟩ (by decide)
  | 1 => exact one 1 cr_1 ⟨_, cd_1⟩ (by decide)
  | 2 => exact one 2 cr_2 ⟨_, cd_2⟩ (by decide)
  | 3 => exact one 3 cr_3 ⟨_, cd_3⟩ (by decide)
  | 4 => exact one 4 cr_4 ⟨_, cd_4⟩ (by decide)
  | 5 => exact one 5 cr_5 ⟨_, cd_5⟩ (by decide)
  | 6 => exact one 6 cr_6 ⟨_, cd_6⟩ (by decide)
  | k + 7 => exact ⟨(0, 0), fun h => absurd h (by omega)⟩
theorem dg_DigitOnes : NT[34]? = some (.arrayOf (.static "java/lang/Integer" "DigitOnes" "[B") .byte) ∧ NT[35]? = some (.eq (.length (.static "java/lang/Integer" "DigitOnes" "[B")) (.int (Int32.ofNat 100))) ∧ ∀ k : Fin 100, NT[36 + k.1]? = some (.eq (.elem (.static "java/lang/Integer" "DigitOnes" "[B") (.int (Int32.ofNat k.1))) (.int (nI (48 + k.1 % 10)))) := by decide +kernel
theorem dg_DigitTens : NT[137]? = some (.arrayOf (.static "java/lang/Integer" "DigitTens" "[B") .byte) ∧ NT[138]? = some (.eq (.length (.static "java/lang/Integer" "DigitTens" "[B")) (.int (Int32.ofNat 100))) ∧ ∀ k : Fin 100, NT[139 + k.1]? = some (.eq (.elem (.static "java/lang/Integer" "DigitTens" "[B") (.int (Int32.ofNat k.1))) (.int (nI (48 + k.1 / 10)))) := by decide +kernel
theorem sw_map : NT[23]? = some (.arrayOf (.static "QuarryRopes$1" "$SwitchMap$QuarryRopes$Word" "[I") .int) ∧ NT[24]? = some (.eq (.length (.static "QuarryRopes$1" "$SwitchMap$QuarryRopes$Word" "[I")) (.int (Int32.ofNat 8))) ∧ ∀ k : Fin 8, NT[25 + k.1]? = some (.eq (.elem (.static "QuarryRopes$1" "$SwitchMap$QuarryRopes$Word" "[I") (.int (Int32.ofNat k.1))) (.int (nI (k.1 + 1)))) := by decide +kernel
theorem wd_row : NT[6]? = some (.arrayOf (.static "QuarryRopes" "WORDS" "[LQuarryRopes$Word;") (.object "QuarryRopes$Word")) ∧ NT[7]? = some (.eq (.length (.static "QuarryRopes" "WORDS" "[LQuarryRopes$Word;")) (.int (Int32.ofNat 8))) ∧ NT[17]? = some (.eq (.static "java/lang/String" "COMPACT_STRINGS" "Z") (.int 1)) ∧ NT[18]? = some (.isRef (.static "jdk/internal/util/Preconditions" "SIOOBE_FORMATTER" "Ljava/util/function/BiFunction;")) := by decide +kernel
theorem tw_lsW : (Cond.laysStatic "QuarryRopes" "WORDS" "[LQuarryRopes$Word;" : Cond) ∈ lw_tbl := (List.mem_of_getElem? (i := 522) (by decide +kernel))
theorem tw_lsC : (Cond.laysStatic "java/lang/String" "COMPACT_STRINGS" "Z" : Cond) ∈ lw_tbl := (List.mem_of_getElem? (i := 536) (by decide +kernel))
theorem tw_lsP : (Cond.laysStatic "jdk/internal/util/Preconditions" "SIOOBE_FORMATTER" "Ljava/util/function/BiFunction;" : Cond) ∈ lw_tbl := (List.mem_of_getElem? (i := 557) (by decide +kernel))
theorem tw_lsM : (Cond.laysStatic "QuarryRopes$1" "$SwitchMap$QuarryRopes$Word" "[I" : Cond) ∈ lw_tbl := (List.mem_of_getElem? (i := 612) (by decide +kernel))
theorem tw_lsO : (Cond.laysStatic "java/lang/Integer" "DigitOnes" "[B" : Cond) ∈ lw_tbl := (List.mem_of_getElem? (i := 1144) (by decide +kernel))
theorem tw_lsT : (Cond.laysStatic "java/lang/Integer" "DigitTens" "[B" : Cond) ∈ lw_tbl := (List.mem_of_getElem? (i := 1146) (by decide +kernel))
theorem tw_inQ : (Cond.initialized "QuarryRopes" : Cond) ∈ lw_tbl := (List.mem_of_getElem? (i := 19) (by decide +kernel))
theorem tw_inS : (Cond.initialized "java/lang/String" : Cond) ∈ lw_tbl := (List.mem_of_getElem? (i := 28) (by decide +kernel))
theorem tw_inP : (Cond.initialized "jdk/internal/util/Preconditions" : Cond) ∈ lw_tbl := (List.mem_of_getElem? (i := 30) (by decide +kernel))
theorem tw_in1 : (Cond.initialized "QuarryRopes$1" : Cond) ∈ lw_tbl := (List.mem_of_getElem? (i := 33) (by decide +kernel))
theorem tw_inI : (Cond.initialized "java/lang/Integer" : Cond) ∈ lw_tbl := (List.mem_of_getElem? (i := 42) (by decide +kernel))
theorem tw_acI : (Cond.arrayClass .int : Cond) ∈ lw_tbl := (List.mem_of_getElem? (i := 77) (by decide +kernel))
theorem tw_acL : (Cond.arrayClass .long : Cond) ∈ lw_tbl := (List.mem_of_getElem? (i := 1230) (by decide +kernel))
theorem tw_acB : (Cond.arrayClass .byte : Cond) ∈ lw_tbl := (List.mem_of_getElem? (i := 1031) (by decide +kernel))
theorem tw_aoQ : (Cond.arrayOver (.object RX5) : Cond) ∈ lw_tbl := (List.mem_of_getElem? (i := 174) (by decide +kernel))
theorem tw_aoW : (Cond.arrayOver (.object RX9) : Cond) ∈ lw_tbl := (List.mem_of_getElem? (i := 194) (by decide +kernel))
theorem tw_caB : (Cond.castable "[B" "java/lang/Cloneable" : Cond) ∈ lw_tbl := (List.mem_of_getElem? (i := 1069) (by decide +kernel))
theorem tw_J5_ensureCapacityInternal_d00df : Cond.privateMethod yJ5_ensureCapacityInternal_d00df ∈ lw_tbl := (List.mem_of_getElem? (i := 1045) (by decide +kernel))
theorem tw_J5_newCapacity_0f7a4 : Cond.privateMethod yJ5_newCapacity_0f7a4 ∈ lw_tbl := (List.mem_of_getElem? (i := 1049) (by decide +kernel))
theorem tw_J5_inflateIfNeededFor_a7421 : Cond.privateMethod yJ5_inflateIfNeededFor_a7421 ∈ lw_tbl := (List.mem_of_getElem? (i := 1101) (by decide +kernel))
theorem tw_J5_putStringAt_47b60 : Cond.privateMethod yJ5_putStringAt_47b60 ∈ lw_tbl := (List.mem_of_getElem? (i := 1097) (by decide +kernel))
theorem nest_all : qNL = [59, 64, 66, 68, 69, 80, 88, 100, 109, 129, 136, 141, 143, 145, 147, 149, 151, 153, 179, 189, 198, 200, 202, 204, 206, 224, 230, 238, 291, 314, 324, 329, 345, 373, 378, 393, 406, 423, 428, 433, 474, 491, 521, 541, 663, 690, 699, 965, 979, 1239, 1240, 174, 194].filterMap (fun i => lw_tbl[i]?) := by decide +kernel
theorem nest_in : ∀ w ∈ qNL, w ∈ lw_tbl := by
  intro w hw
  rw [nest_all] at hw
  obtain ⟨i, -, hi⟩ := List.mem_filterMap.mp hw
  exact List.mem_of_getElem? hi
theorem nest_tab : ∀ w ∈ qNL, w.onTables = true ∨ w = .arrayOver (.object RX5) ∨ w = .arrayOver (.object RX9) := by decide +kernel
theorem nest_of {w : Cond} (hw : w ∈ qNL) (h : w.before args s = true) : va_Nw w s := by
  rcases nest_tab w hw with h1 | rfl | rfl
  · exact va_Nw.of h1 h
  · exact h
  · exact h
theorem arr_prim {ty : FieldType} (hp : ∀ c, va_RA s c ty = (s.vm.findClass ("[" ++ ty.toString) = some c)) (h : (Cond.arrayClass ty).before args s = true) : ∃ c : ClassId, ArrOfT s c ty ∧ va_RA s c ty := by
  obtain ⟨c, k, comp, h1, h2, h3⟩ := Cond.arrayClass_spec h
  exact ⟨c, fun n z => ⟨fun k h => (by cases h), k, h2, comp, h3⟩, by rw [hp]; exact h1⟩
theorem arr_obj {C : String} (h : (Cond.arrayOver (.object C)).before args s = true) : ∃ c : ClassId, ArrOfT s c (.object C) ∧ va_RA s c (.object C) := by
  obtain ⟨comp, c, k, h1, h2, h3, h4, h5⟩ := Cond.arrayOver_spec h
  exact ⟨c, fun n z => ⟨fun k h => (by cases h), k, h3, comp, h4⟩, ⟨k, comp, h3, h4, h1, h5⟩⟩
/-- the class ids and the addresses, as one function -/
def csOf (c0 c1 c2 c3 c4 w m d1 d2 : Nat) (fw : Nat → Nat × Nat × Nat) (fc : Nat → Nat × Nat) : qC := fun k =>
  if k = 0 then c0 else if k = 1 then c1 else if k = 2 then c2 else if k = 3 then c3 else if k = 4 then c4 else if k < 32 then (fw (k - 16)).1 else if k < 48 then (fw (k - 32)).2.1 else if k < 64 then (fw (k - 48)).2.2 else if k = 64 then w else if k = 65 then m else if k = 66 then d1 else if k = 67 then d2 else if k < 80 then (fc (k - 72)).1 else (fc (k - 80)).2
theorem cs_w {c0 c1 c2 c3 c4 w m d1 d2 : Nat} {fw : Nat → Nat × Nat × Nat} {fc : Nat → Nat × Nat} {k : Nat} (hk : k < 8) : csOf c0 c1 c2 c3 c4 w m d1 d2 fw fc (16 + k) = (fw k).1 ∧ csOf c0 c1 c2 c3 c4 w m d1 d2 fw fc (32 + k) = (fw k).2.1 ∧ csOf c0 c1 c2 c3 c4 w m d1 d2 fw fc (48 + k) = (fw k).2.2 := by
  match k, hk with
  | 0, _ => exact ⟨rfl, rfl, rfl⟩
  | 1, _ => exact ⟨rfl, rfl, rfl⟩
  | 2, _ => exact ⟨rfl, rfl, rfl⟩
  | 3, _ => exact ⟨rfl, rfl, rfl⟩
  | 4, _ => exact ⟨rfl, rfl, rfl⟩
  | 5, _ => exact ⟨rfl, rfl, rfl⟩
  | 6, _ => exact ⟨rfl, rfl, rfl⟩
  | 7, _ => exact ⟨rfl, rfl, rfl⟩
theorem cs_c {c0 c1 c2 c3 c4 w m d1 d2 : Nat} {fw : Nat → Nat × Nat × Nat} {fc : Nat → Nat × Nat} {k : Nat} (hk : k < 7) : csOf c0 c1 c2 c3 c4 w m d1 d2 fw fc (72 + k) = (fc k).1 ∧ csOf c0 c1 c2 c3 c4 w m d1 d2 fw fc (80 + k) = (fc k).2 := by
  match k, hk with
  | 0, _ => exact ⟨rfl, rfl⟩
  | 1, _ => exact ⟨rfl, rfl⟩
  | 2, _ => exact ⟨rfl, rfl⟩
  | 3, _ => exact ⟨rfl, rfl⟩
  | 4, _ => exact ⟨rfl, rfl⟩
  | 5, _ => exact ⟨rfl, rfl⟩
  | 6, _ => exact ⟨rfl, rfl⟩
theorem world (hts : ∀ w ∈ lw_tbl, w.before args s = true) (hgv : (Jvm.Cond.and given_1 narrow_1).before args s = true) : ∃ (D : va_G) (cs : qC), qK D cs s ∧ jX s.heap.size cs s s.heap := by
  have hs : ∀ w ∈ NT, w.before args s = true := flat_of_before _ hgv
  have hg : ∀ w ∈ qG, w.before args s = true := fun w h => hts w (List.mem_filter.mp h).1
  have hA : ∀ a : Nat, a < s.heap.size → ¬ qGe0 s.heap.size a := fun a h => Nat.not_le.mpr h
  obtain ⟨fw, hfw⟩ := Classical.axiomOfChoice (words_all (A := qGe0 s.heap.size) hs hA)
  obtain ⟨fc, hfc⟩ := Classical.axiomOfChoice (consts_all (A := qGe0 s.heap.size) hts hs hA)
  obtain ⟨w, ew, tw⟩ := va_Tof (N := 8) (f := fun k => .ref (fw k).1) (A := qGe0 s.heap.size) (by decide) (nt_at hs wd_row.1) (va_eqt (nt_at hs wd_row.2.1)) (fun j hj => (hfw j hj).1) hA
  obtain ⟨m, em, tm⟩ := va_Tof (N := 8) (f := fun k => .int (nI (k + 1))) (A := qGe0 s.heap.size) (by decide) (nt_at hs sw_map.1) (va_eqt (nt_at hs sw_map.2.1)) (fun j hj => va_eqt (nt_at hs (sw_map.2.2 ⟨j, hj⟩))) hA
  obtain ⟨d1, e1, t1⟩ := va_Tof (N := 100) (f := fun k => .int (nI (48 + k % 10))) (A := qGe0 s.heap.size) (by decide) (nt_at hs dg_DigitOnes.1) (va_eqt (nt_at hs dg_DigitOnes.2.1)) (fun j hj => va_eqt (nt_at hs (dg_DigitOnes.2.2 ⟨j, hj⟩))) hA
  obtain ⟨d2, e2, t2⟩ := va_Tof (N := 100) (f := fun k => .int (nI (48 + k / 10))) (A := qGe0 s.heap.size) (by decide) (nt_at hs dg_DigitTens.1) (va_eqt (nt_at hs dg_DigitTens.2.1)) (fun j hj => va_eqt (nt_at hs (dg_DigitTens.2.2 ⟨j, hj⟩))) hA
  obtain ⟨c0, a0, b0⟩ := arr_prim (s := s) (ty := .int) (fun _ => rfl) (hts _ tw_acI)
  obtain ⟨c1, a1, b1⟩ := arr_obj (s := s) (hts _ tw_aoQ)
  obtain ⟨c2, a2, b2⟩ := arr_obj (s := s) (hts _ tw_aoW)
  obtain ⟨c3, a3, b3⟩ := arr_prim (s := s) (ty := .long) (fun _ => rfl) (hts _ tw_acL)
  obtain ⟨c4, a4, b4⟩ := arr_prim (s := s) (ty := .byte) (fun _ => rfl) (hts _ tw_acB)
  obtain ⟨k0, i0, u0⟩ := u_known (C := RJ0) (T := TJ0) (N := 4) hg in_J0 (hg _ wx_instS)
  obtain ⟨k1, i1, u1⟩ := u_known (C := RJ4) (T := TJ4) (N := 4) hg in_J4 (hg _ wx_inst)
  obtain ⟨k2, i2, u2⟩ := u_known (C := RX1) (T := TX1) (N := 3) hg in_X1 (hg _ wn_X1)
  obtain ⟨k3, i3, u3⟩ := u_known (C := RX2) (T := TX2) (N := 3) hg in_X2 (hg _ wn_X2)
  obtain ⟨k4, i4, u4⟩ := u_known (C := RX3) (T := TX3) (N := 7) hg in_X3 (hg _ wn_X3)
  obtain ⟨k5, i5, u5⟩ := u_known (C := RX4) (T := TX4) (N := 2) hg in_X4 (hg _ wn_X4)
  obtain ⟨k6, i6, u6⟩ := u_known (C := RX5) (T := TX5) (N := 6) hg in_X5 (hg _ wn_X5)
  obtain ⟨k7, i7, u7⟩ := u_known (C := RX6) (T := TX6) (N := 4) hg in_X6 (hg _ wn_X6)
  obtain ⟨k8, i8, u8⟩ := u_known (C := RX7) (T := TX7) (N := 5) hg in_X7 (hg _ wn_X7)
  obtain ⟨k9, i9, u9⟩ := u_known (C := RX8) (T := TX8) (N := 4) hg in_X8 (hg _ wn_X8)
  obtain ⟨k10, i10, u10⟩ := u_known (C := RX10) (T := TX10) (N := 9) hg in_X10 (hg _ wn_X10)
  have hP : ∀ y : MethodName, (y.cls ≠ "java/lang/invoke/MethodHandle" ∧ y.cls ≠ "java/lang/invoke/VarHandle") → Cond.sameMethod y.cls y.cls y.name y.desc ∈ qG → Cond.privateMethod y ∈ lw_tbl → Cond.instanceMethod y ∈ qG → va_Nw (.selects "java/lang/StringBuilder" y y) s := fun y h1 h2 h3 h4 => va_Nw.of rfl (q_selPriv h1 (hg _ wx_inst) (hg _ h2) (hts _ h3) (hg _ h4))
  refine ⟨(fun n => [k0, k1, k2, k3, k4, k5, k6, k7, k8, k9, k10].getD n 0, fun n => [i0, i1, i2, i3, i4, i5, i6, i7, i8, i9, i10].getD n (fun _ => 0)), csOf c0 c1 c2 c3 c4 w m d1 d2 fw fc, ⟨⟨fun n q hq => ?_, fun n q hq => ?_⟩, fun w hw => nest_of hw (hts w (nest_in w hw))⟩, ⟨⟨va_Zof (hts _ tw_lsC) (hts _ tw_inS) (va_eqt (nt_at hs wd_row.2.2.1)) hA, va_Zqof (hts _ tw_lsP) (hts _ tw_inP) (nt_at hs wd_row.2.2.2) hA⟩, fun k hk => ?_, va_Zof (hts _ tw_lsW) (hts _ tw_inQ) ew hA, ?_, va_Zof (hts _ tw_lsM) (hts _ tw_in1) em hA, tm⟩, ⟨⟨va_Zof (hts _ tw_lsC) (hts _ tw_inS) (va_eqt (nt_at hs wd_row.2.2.1)) hA, va_Zqof (hts _ tw_lsP) (hts _ tw_inP) (nt_at hs wd_row.2.2.2) hA⟩, ⟨va_Zof (hts _ tw_lsO) (hts _ tw_inI) e1 hA, t1⟩, ⟨va_Zof (hts _ tw_lsT) (hts _ tw_inI) e2 hA, t2⟩, va_Nw.of rfl (hts _ tw_caB), hP _ ⟨by decide +kernel, by decide +kernel⟩ sm_J5_ensureCapacityInternal_d00df tw_J5_ensureCapacityInternal_d00df v_J5_ensureCapacityInternal_d00df.2.1, hP _ ⟨by decide +kernel, by decide +kernel⟩ sm_J5_newCapacity_0f7a4 tw_J5_newCapacity_0f7a4 v_J5_newCapacity_0f7a4.2.1, hP _ ⟨by decide +kernel, by decide +kernel⟩ sm_J5_inflateIfNeededFor_a7421 tw_J5_inflateIfNeededFor_a7421 v_J5_inflateIfNeededFor_a7421.2.1, hP _ ⟨by decide +kernel, by decide +kernel⟩ sm_J5_putStringAt_47b60 tw_J5_putStringAt_47b60 v_J5_putStringAt_47b60.2.1⟩, fun k hk => ?_⟩
  · match n, hq with
    | 0, hq => cases hq; exact u0
    | 1, hq => cases hq; exact u1
    | 2, hq => cases hq; exact u2
    | 3, hq => cases hq; exact u3
    | 4, hq => cases hq; exact u4
    | 5, hq => cases hq; exact u5
    | 6, hq => cases hq; exact u6
    | 7, hq => cases hq; exact u7
    | 8, hq => cases hq; exact u8
    | 9, hq => cases hq; exact u9
    | 10, hq => cases hq; exact u10
    | n + 11, hq => simp [vwCl] at hq
  · match n, hq with
    | 0, hq => cases hq; exact ⟨a0, b0⟩
    | 1, hq => cases hq; exact ⟨a1, b1⟩
    | 2, hq => cases hq; exact ⟨a2, b2⟩
    | 3, hq => cases hq; exact ⟨a3, b3⟩
    | 4, hq => cases hq; exact ⟨a4, b4⟩
    | n + 5, hq => simp [qT] at hq
  · obtain ⟨z1, z2, z3⟩ := cs_w (c0 := c0) (c1 := c1) (c2 := c2) (c3 := c3) (c4 := c4) (w := w) (m := m) (d1 := d1) (d2 := d2) (fw := fw) (fc := fc) hk
    rw [z1, z2, z3]
    exact (hfw k hk).2
  · have h9 : ∀ k : Nat, k < 8 → (fun k => Value.ref (csOf c0 c1 c2 c3 c4 w m d1 d2 fw fc (16 + k))) k = (fun k => Value.ref (fw k).1) k := fun k hk => by
      show Value.ref _ = Value.ref _
      rw [(cs_w hk).1]
    obtain ⟨cell, y1, y2, y3, y4, y5, y6, y7⟩ := tw
    exact ⟨cell, y1, y2, y3, y4, y5, fun j hj => by rw [y6 j hj]; exact congrArg some (h9 j hj).symm, y7⟩
  · obtain ⟨z1, z2⟩ := cs_c (c0 := c0) (c1 := c1) (c2 := c2) (c3 := c3) (c4 := c4) (w := w) (m := m) (d1 := d1) (d2 := d2) (fw := fw) (fc := fc) hk
    rw [z1, z2]
    exact hfc k hk
end QW
