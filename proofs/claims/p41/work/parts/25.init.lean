/-! the constructors -/
abbrev qGe (a q : Nat) : Prop := a ≤ q
set_option maxHeartbeats 8000000 in
set_option maxRecDepth 20000 in
theorem c_X1_init (l : Launch) (D : va_G) (cs : qC) {M0 : qM} {a : Nat} (hMa : M0 a = some (.inr (2, [.null, .null, .int 0]))) :
    qMet l D cs yX1_init (qws yX1_init cX1_init 1 none) ({ frames := 1, cells := 2, slots := 32, locals := 20 } : Room) M0 (a + 1) [.ref a] (qMod (a + 3) none (fun M' => (qLB cs M' a (List.replicate 16 0, List.replicate 16 0, 0)) ∧ qFr (qGe a) M0 M')) 2 32 := by
  refine q_head (by decide) ?_ (Nat.le_of_ble_eq_true rfl)
  intro p e s m below meth c ls hx hb hret hlk hml hown hnm hg hK hN hI hl
  have hl : lv_has ls 1 [(0, .ref a)] := hl
  have hS : qFr (qGe a) M0 M0 := qFr.rf
  obtain ⟨locs, hlocs⟩ : ∃ z, ([] : List Loc) = z := ⟨_, rfl⟩
  rw [hlocs] at hI ⊢
  refine lv_aload_n hx hb dX1_init_0 rfl (lv_at hl 0 rfl) ?_
  refine q_objInit hx hb (hml.trans hl.1.symm) hg hown wo_X1 wo_inst wo_code dX1_init_1 (Nat.le_of_ble_eq_true rfl) (Nat.le_of_ble_eq_true rfl) ?_
  refine lv_aload_n hx hb dX1_init_4 rfl (lv_at hl 0 rfl) ?_
  refine lv_bipush (v := 16) hx hb dX1_init_5 (by decide) ?_
  refine q_newI hx hb hg wa_int hK hI 16 (by decide) (by decide) (by decide) (Nat.le_of_ble_eq_true rfl) (Nat.le_of_ble_eq_true rfl) dX1_init_7 (fun H hI => ?_)
  obtain ⟨M, hI, hMa, hx0, hS⟩ : ∃ Mx : qM, qI D M0 s.heap Mx (a + 2) H locs ∧ Mx a = some (.inr (2, [.null, .null, .int 0])) ∧ qRow cs Mx (a + 1) (List.replicate 16 0) 16 ∧ qFr (qGe a) M0 Mx := ⟨_, hI, (qUp_ne (by omega)).trans hMa, ⟨qUp_at _ _ _, by simp, by decide⟩, hS.tr (qFr.up (k := 1) (by decide)) (fun q hq => by omega)⟩
  have hr1 := hx0
  refine q_putF (v := .ref (a + 1)) hx hb hg in_X1 tyX1_ok nmX1 hown hK hI hMa rfl 0 (by decide) (hg _ wf_X1_9) (fun _ h9 => h9) rfl hnm rfl rfl rfl (Nat.le_of_ble_eq_true rfl) dX1_init_9 (fun H locs hI => ?_)
  obtain ⟨M, hI, hMa, hr1, hS⟩ : ∃ Mx : qM, qI D M0 s.heap Mx (a + 2) H locs ∧ Mx a = some (.inr (2, [.ref (a + 1), .null, .int 0])) ∧ qRow cs Mx (a + 1) (List.replicate 16 0) 16 ∧ qFr (qGe a) M0 Mx := ⟨_, hI, qUp_at _ _ _, hr1.same (qUp_ne (by omega)), hS.tr (qFr.up (k := 1) (by decide)) (fun q hq => by omega)⟩
  refine lv_aload_n hx hb dX1_init_12 rfl (lv_at hl 0 rfl) ?_
  refine lv_bipush (v := 16) hx hb dX1_init_13 (by decide) ?_
  refine q_newI hx hb hg wa_int hK hI 16 (by decide) (by decide) (by decide) (Nat.le_of_ble_eq_true rfl) (Nat.le_of_ble_eq_true rfl) dX1_init_15 (fun H hI => ?_)
  obtain ⟨M, hI, hMa, hr1, hx0, hS⟩ : ∃ Mx : qM, qI D M0 s.heap Mx (a + 3) H locs ∧ Mx a = some (.inr (2, [.ref (a + 1), .null, .int 0])) ∧ qRow cs Mx (a + 1) (List.replicate 16 0) 16 ∧ qRow cs Mx (a + 2) (List.replicate 16 0) 16 ∧ qFr (qGe a) M0 Mx := ⟨_, hI, (qUp_ne (by omega)).trans hMa, hr1.same (qUp_ne (by omega)), ⟨qUp_at _ _ _, by simp, by decide⟩, hS.tr (qFr.up (k := 1) (by decide)) (fun q hq => by omega)⟩
  have hr2 := hx0
  refine q_putF (v := .ref (a + 2)) hx hb hg in_X1 tyX1_ok nmX1 hown hK hI hMa rfl 1 (by decide) (hg _ wf_X1_15) (fun _ h9 => h9) rfl hnm rfl rfl rfl (Nat.le_of_ble_eq_true rfl) dX1_init_17 (fun H locs hI => ?_)
  obtain ⟨M, hI, hMa, hr1, hr2, hS⟩ : ∃ Mx : qM, qI D M0 s.heap Mx (a + 3) H locs ∧ Mx a = some (.inr (2, [.ref (a + 1), .ref (a + 2), .int 0])) ∧ qRow cs Mx (a + 1) (List.replicate 16 0) 16 ∧ qRow cs Mx (a + 2) (List.replicate 16 0) 16 ∧ qFr (qGe a) M0 Mx := ⟨_, hI, qUp_at _ _ _, hr1.same (qUp_ne (by omega)), hr2.same (qUp_ne (by omega)), hS.tr (qFr.up (k := 1) (by decide)) (fun q hq => by omega)⟩
  exact q_vret (st := []) hx hb hret hlk hN hI ⟨rfl, ⟨⟨hMa, hr1, hr2⟩, hS⟩, rfl⟩ dX1_init_20
set_option maxHeartbeats 8000000 in
set_option maxRecDepth 20000 in
theorem c_X8_init (l : Launch) (D : va_G) (cs : qC) {M0 : qM} {a : Nat} (hMa : M0 a = some (.inr (9, [.null, .null, .null, .int 0]))) :
    qMet l D cs yX8_init (qws yX8_init cX8_init 1 none) ({ frames := 1, cells := 3, slots := 48, locals := 20 } : Room) M0 (a + 1) [.ref a] (qMod (a + 4) none (fun M' => (qLT cs M' a (List.replicate 16 0, List.replicate 16 0, List.replicate 16 0, 0)) ∧ qFr (qGe a) M0 M')) 3 48 := by
  refine q_head (by decide) ?_ (Nat.le_of_ble_eq_true rfl)
  intro p e s m below meth c ls hx hb hret hlk hml hown hnm hg hK hN hI hl
  have hl : lv_has ls 1 [(0, .ref a)] := hl
  have hS : qFr (qGe a) M0 M0 := qFr.rf
  obtain ⟨locs, hlocs⟩ : ∃ z, ([] : List Loc) = z := ⟨_, rfl⟩
  rw [hlocs] at hI ⊢
  refine lv_aload_n hx hb dX8_init_0 rfl (lv_at hl 0 rfl) ?_
  refine q_objInit hx hb (hml.trans hl.1.symm) hg hown wo_X8 wo_inst wo_code dX8_init_1 (Nat.le_of_ble_eq_true rfl) (Nat.le_of_ble_eq_true rfl) ?_
  refine lv_aload_n hx hb dX8_init_4 rfl (lv_at hl 0 rfl) ?_
  refine lv_bipush (v := 16) hx hb dX8_init_5 (by decide) ?_
  refine q_newI hx hb hg wa_int hK hI 16 (by decide) (by decide) (by decide) (Nat.le_of_ble_eq_true rfl) (Nat.le_of_ble_eq_true rfl) dX8_init_7 (fun H hI => ?_)
  obtain ⟨M, hI, hMa, hx0, hS⟩ : ∃ Mx : qM, qI D M0 s.heap Mx (a + 2) H locs ∧ Mx a = some (.inr (9, [.null, .null, .null, .int 0])) ∧ qRow cs Mx (a + 1) (List.replicate 16 0) 16 ∧ qFr (qGe a) M0 Mx := ⟨_, hI, (qUp_ne (by omega)).trans hMa, ⟨qUp_at _ _ _, by simp, by decide⟩, hS.tr (qFr.up (k := 1) (by decide)) (fun q hq => by omega)⟩
  have hr1 := hx0
  refine q_putF (v := .ref (a + 1)) hx hb hg in_X8 tyX8_ok nmX8 hown hK hI hMa rfl 0 (by decide) (hg _ wf_X8_9) (fun _ h9 => h9) rfl hnm rfl rfl rfl (Nat.le_of_ble_eq_true rfl) dX8_init_9 (fun H locs hI => ?_)
  obtain ⟨M, hI, hMa, hr1, hS⟩ : ∃ Mx : qM, qI D M0 s.heap Mx (a + 2) H locs ∧ Mx a = some (.inr (9, [.ref (a + 1), .null, .null, .int 0])) ∧ qRow cs Mx (a + 1) (List.replicate 16 0) 16 ∧ qFr (qGe a) M0 Mx := ⟨_, hI, qUp_at _ _ _, hr1.same (qUp_ne (by omega)), hS.tr (qFr.up (k := 1) (by decide)) (fun q hq => by omega)⟩
  refine lv_aload_n hx hb dX8_init_12 rfl (lv_at hl 0 rfl) ?_
  refine lv_bipush (v := 16) hx hb dX8_init_13 (by decide) ?_
  refine q_newI hx hb hg wa_int hK hI 16 (by decide) (by decide) (by decide) (Nat.le_of_ble_eq_true rfl) (Nat.le_of_ble_eq_true rfl) dX8_init_15 (fun H hI => ?_)
  obtain ⟨M, hI, hMa, hr1, hx0, hS⟩ : ∃ Mx : qM, qI D M0 s.heap Mx (a + 3) H locs ∧ Mx a = some (.inr (9, [.ref (a + 1), .null, .null, .int 0])) ∧ qRow cs Mx (a + 1) (List.replicate 16 0) 16 ∧ qRow cs Mx (a + 2) (List.replicate 16 0) 16 ∧ qFr (qGe a) M0 Mx := ⟨_, hI, (qUp_ne (by omega)).trans hMa, hr1.same (qUp_ne (by omega)), ⟨qUp_at _ _ _, by simp, by decide⟩, hS.tr (qFr.up (k := 1) (by decide)) (fun q hq => by omega)⟩
  have hr2 := hx0
  refine q_putF (v := .ref (a + 2)) hx hb hg in_X8 tyX8_ok nmX8 hown hK hI hMa rfl 1 (by decide) (hg _ wf_X8_15) (fun _ h9 => h9) rfl hnm rfl rfl rfl (Nat.le_of_ble_eq_true rfl) dX8_init_17 (fun H locs hI => ?_)
  obtain ⟨M, hI, hMa, hr1, hr2, hS⟩ : ∃ Mx : qM, qI D M0 s.heap Mx (a + 3) H locs ∧ Mx a = some (.inr (9, [.ref (a + 1), .ref (a + 2), .null, .int 0])) ∧ qRow cs Mx (a + 1) (List.replicate 16 0) 16 ∧ qRow cs Mx (a + 2) (List.replicate 16 0) 16 ∧ qFr (qGe a) M0 Mx := ⟨_, hI, qUp_at _ _ _, hr1.same (qUp_ne (by omega)), hr2.same (qUp_ne (by omega)), hS.tr (qFr.up (k := 1) (by decide)) (fun q hq => by omega)⟩
  refine lv_aload_n hx hb dX8_init_20 rfl (lv_at hl 0 rfl) ?_
  refine lv_bipush (v := 16) hx hb dX8_init_21 (by decide) ?_
  refine q_newI hx hb hg wa_int hK hI 16 (by decide) (by decide) (by decide) (Nat.le_of_ble_eq_true rfl) (Nat.le_of_ble_eq_true rfl) dX8_init_23 (fun H hI => ?_)
  obtain ⟨M, hI, hMa, hr1, hr2, hx0, hS⟩ : ∃ Mx : qM, qI D M0 s.heap Mx (a + 4) H locs ∧ Mx a = some (.inr (9, [.ref (a + 1), .ref (a + 2), .null, .int 0])) ∧ qRow cs Mx (a + 1) (List.replicate 16 0) 16 ∧ qRow cs Mx (a + 2) (List.replicate 16 0) 16 ∧ qRow cs Mx (a + 3) (List.replicate 16 0) 16 ∧ qFr (qGe a) M0 Mx := ⟨_, hI, (qUp_ne (by omega)).trans hMa, hr1.same (qUp_ne (by omega)), hr2.same (qUp_ne (by omega)), ⟨qUp_at _ _ _, by simp, by decide⟩, hS.tr (qFr.up (k := 1) (by decide)) (fun q hq => by omega)⟩
  have hr3 := hx0
  refine q_putF (v := .ref (a + 3)) hx hb hg in_X8 tyX8_ok nmX8 hown hK hI hMa rfl 2 (by decide) (hg _ wf_X8_18) (fun _ h9 => h9) rfl hnm rfl rfl rfl (Nat.le_of_ble_eq_true rfl) dX8_init_25 (fun H locs hI => ?_)
  obtain ⟨M, hI, hMa, hr1, hr2, hr3, hS⟩ : ∃ Mx : qM, qI D M0 s.heap Mx (a + 4) H locs ∧ Mx a = some (.inr (9, [.ref (a + 1), .ref (a + 2), .ref (a + 3), .int 0])) ∧ qRow cs Mx (a + 1) (List.replicate 16 0) 16 ∧ qRow cs Mx (a + 2) (List.replicate 16 0) 16 ∧ qRow cs Mx (a + 3) (List.replicate 16 0) 16 ∧ qFr (qGe a) M0 Mx := ⟨_, hI, qUp_at _ _ _, hr1.same (qUp_ne (by omega)), hr2.same (qUp_ne (by omega)), hr3.same (qUp_ne (by omega)), hS.tr (qFr.up (k := 1) (by decide)) (fun q hq => by omega)⟩
  exact q_vret (st := []) hx hb hret hlk hN hI ⟨rfl, ⟨⟨hMa, hr1, hr2, hr3⟩, hS⟩, rfl⟩ dX8_init_28
set_option maxHeartbeats 8000000 in
set_option maxRecDepth 20000 in
theorem c_X7_init (l : Launch) (D : va_G) (cs : qC) {M0 : qM} {a : Nat} (hMa : M0 a = some (.inr (8, [.null, .null, .null, .null, .int 0]))) :
    qMet l D cs yX7_init (qws yX7_init cX7_init 1 none) ({ frames := 1, cells := 4, slots := 12, locals := 20 } : Room) M0 (a + 1) [.ref a] (qMod (a + 5) none (fun M' => (qLS cs M' a (List.replicate 3 0, List.replicate 3 0, List.replicate 3 0, List.replicate 3 0, 0)) ∧ qFr (qGe a) M0 M')) 4 12 := by
  refine q_head (by decide) ?_ (Nat.le_of_ble_eq_true rfl)
  intro p e s m below meth c ls hx hb hret hlk hml hown hnm hg hK hN hI hl
  have hl : lv_has ls 1 [(0, .ref a)] := hl
  have hS : qFr (qGe a) M0 M0 := qFr.rf
  obtain ⟨locs, hlocs⟩ : ∃ z, ([] : List Loc) = z := ⟨_, rfl⟩
  rw [hlocs] at hI ⊢
  refine lv_aload_n hx hb dX7_init_0 rfl (lv_at hl 0 rfl) ?_
  refine q_objInit hx hb (hml.trans hl.1.symm) hg hown wo_X7 wo_inst wo_code dX7_init_1 (Nat.le_of_ble_eq_true rfl) (Nat.le_of_ble_eq_true rfl) ?_
  refine lv_aload_n hx hb dX7_init_4 rfl (lv_at hl 0 rfl) ?_
  refine lv_iconst (v := 3) hx hb dX7_init_5 (by decide) ?_
  refine q_newI hx hb hg wa_int hK hI 3 (by decide) (by decide) (by decide) (Nat.le_of_ble_eq_true rfl) (Nat.le_of_ble_eq_true rfl) dX7_init_6 (fun H hI => ?_)
  obtain ⟨M, hI, hMa, hx0, hS⟩ : ∃ Mx : qM, qI D M0 s.heap Mx (a + 2) H locs ∧ Mx a = some (.inr (8, [.null, .null, .null, .null, .int 0])) ∧ qRow cs Mx (a + 1) (List.replicate 3 0) 3 ∧ qFr (qGe a) M0 Mx := ⟨_, hI, (qUp_ne (by omega)).trans hMa, ⟨qUp_at _ _ _, by simp, by decide⟩, hS.tr (qFr.up (k := 1) (by decide)) (fun q hq => by omega)⟩
  have hr1 := hx0
  refine q_putF (v := .ref (a + 1)) hx hb hg in_X7 tyX7_ok nmX7 hown hK hI hMa rfl 0 (by decide) (hg _ wf_X7_9) (fun _ h9 => h9) rfl hnm rfl rfl rfl (Nat.le_of_ble_eq_true rfl) dX7_init_8 (fun H locs hI => ?_)
  obtain ⟨M, hI, hMa, hr1, hS⟩ : ∃ Mx : qM, qI D M0 s.heap Mx (a + 2) H locs ∧ Mx a = some (.inr (8, [.ref (a + 1), .null, .null, .null, .int 0])) ∧ qRow cs Mx (a + 1) (List.replicate 3 0) 3 ∧ qFr (qGe a) M0 Mx := ⟨_, hI, qUp_at _ _ _, hr1.same (qUp_ne (by omega)), hS.tr (qFr.up (k := 1) (by decide)) (fun q hq => by omega)⟩
  refine lv_aload_n hx hb dX7_init_11 rfl (lv_at hl 0 rfl) ?_
  refine lv_iconst (v := 3) hx hb dX7_init_12 (by decide) ?_
  refine q_newI hx hb hg wa_int hK hI 3 (by decide) (by decide) (by decide) (Nat.le_of_ble_eq_true rfl) (Nat.le_of_ble_eq_true rfl) dX7_init_13 (fun H hI => ?_)
  obtain ⟨M, hI, hMa, hr1, hx0, hS⟩ : ∃ Mx : qM, qI D M0 s.heap Mx (a + 3) H locs ∧ Mx a = some (.inr (8, [.ref (a + 1), .null, .null, .null, .int 0])) ∧ qRow cs Mx (a + 1) (List.replicate 3 0) 3 ∧ qRow cs Mx (a + 2) (List.replicate 3 0) 3 ∧ qFr (qGe a) M0 Mx := ⟨_, hI, (qUp_ne (by omega)).trans hMa, hr1.same (qUp_ne (by omega)), ⟨qUp_at _ _ _, by simp, by decide⟩, hS.tr (qFr.up (k := 1) (by decide)) (fun q hq => by omega)⟩
  have hr2 := hx0
  refine q_putF (v := .ref (a + 2)) hx hb hg in_X7 tyX7_ok nmX7 hown hK hI hMa rfl 1 (by decide) (hg _ wf_X7_15) (fun _ h9 => h9) rfl hnm rfl rfl rfl (Nat.le_of_ble_eq_true rfl) dX7_init_15 (fun H locs hI => ?_)
  obtain ⟨M, hI, hMa, hr1, hr2, hS⟩ : ∃ Mx : qM, qI D M0 s.heap Mx (a + 3) H locs ∧ Mx a = some (.inr (8, [.ref (a + 1), .ref (a + 2), .null, .null, .int 0])) ∧ qRow cs Mx (a + 1) (List.replicate 3 0) 3 ∧ qRow cs Mx (a + 2) (List.replicate 3 0) 3 ∧ qFr (qGe a) M0 Mx := ⟨_, hI, qUp_at _ _ _, hr1.same (qUp_ne (by omega)), hr2.same (qUp_ne (by omega)), hS.tr (qFr.up (k := 1) (by decide)) (fun q hq => by omega)⟩
  refine lv_aload_n hx hb dX7_init_18 rfl (lv_at hl 0 rfl) ?_
  refine lv_iconst (v := 3) hx hb dX7_init_19 (by decide) ?_
  refine q_newI hx hb hg wa_int hK hI 3 (by decide) (by decide) (by decide) (Nat.le_of_ble_eq_true rfl) (Nat.le_of_ble_eq_true rfl) dX7_init_20 (fun H hI => ?_)
  obtain ⟨M, hI, hMa, hr1, hr2, hx0, hS⟩ : ∃ Mx : qM, qI D M0 s.heap Mx (a + 4) H locs ∧ Mx a = some (.inr (8, [.ref (a + 1), .ref (a + 2), .null, .null, .int 0])) ∧ qRow cs Mx (a + 1) (List.replicate 3 0) 3 ∧ qRow cs Mx (a + 2) (List.replicate 3 0) 3 ∧ qRow cs Mx (a + 3) (List.replicate 3 0) 3 ∧ qFr (qGe a) M0 Mx := ⟨_, hI, (qUp_ne (by omega)).trans hMa, hr1.same (qUp_ne (by omega)), hr2.same (qUp_ne (by omega)), ⟨qUp_at _ _ _, by simp, by decide⟩, hS.tr (qFr.up (k := 1) (by decide)) (fun q hq => by omega)⟩
  have hr3 := hx0
  refine q_putF (v := .ref (a + 3)) hx hb hg in_X7 tyX7_ok nmX7 hown hK hI hMa rfl 2 (by decide) (hg _ wf_X7_18) (fun _ h9 => h9) rfl hnm rfl rfl rfl (Nat.le_of_ble_eq_true rfl) dX7_init_22 (fun H locs hI => ?_)
  obtain ⟨M, hI, hMa, hr1, hr2, hr3, hS⟩ : ∃ Mx : qM, qI D M0 s.heap Mx (a + 4) H locs ∧ Mx a = some (.inr (8, [.ref (a + 1), .ref (a + 2), .ref (a + 3), .null, .int 0])) ∧ qRow cs Mx (a + 1) (List.replicate 3 0) 3 ∧ qRow cs Mx (a + 2) (List.replicate 3 0) 3 ∧ qRow cs Mx (a + 3) (List.replicate 3 0) 3 ∧ qFr (qGe a) M0 Mx := ⟨_, hI, qUp_at _ _ _, hr1.same (qUp_ne (by omega)), hr2.same (qUp_ne (by omega)), hr3.same (qUp_ne (by omega)), hS.tr (qFr.up (k := 1) (by decide)) (fun q hq => by omega)⟩
  refine lv_aload_n hx hb dX7_init_25 rfl (lv_at hl 0 rfl) ?_
  refine lv_iconst (v := 3) hx hb dX7_init_26 (by decide) ?_
  refine q_newI hx hb hg wa_int hK hI 3 (by decide) (by decide) (by decide) (Nat.le_of_ble_eq_true rfl) (Nat.le_of_ble_eq_true rfl) dX7_init_27 (fun H hI => ?_)
  obtain ⟨M, hI, hMa, hr1, hr2, hr3, hx0, hS⟩ : ∃ Mx : qM, qI D M0 s.heap Mx (a + 5) H locs ∧ Mx a = some (.inr (8, [.ref (a + 1), .ref (a + 2), .ref (a + 3), .null, .int 0])) ∧ qRow cs Mx (a + 1) (List.replicate 3 0) 3 ∧ qRow cs Mx (a + 2) (List.replicate 3 0) 3 ∧ qRow cs Mx (a + 3) (List.replicate 3 0) 3 ∧ qRow cs Mx (a + 4) (List.replicate 3 0) 3 ∧ qFr (qGe a) M0 Mx := ⟨_, hI, (qUp_ne (by omega)).trans hMa, hr1.same (qUp_ne (by omega)), hr2.same (qUp_ne (by omega)), hr3.same (qUp_ne (by omega)), ⟨qUp_at _ _ _, by simp, by decide⟩, hS.tr (qFr.up (k := 1) (by decide)) (fun q hq => by omega)⟩
  have hr4 := hx0
  refine q_putF (v := .ref (a + 4)) hx hb hg in_X7 tyX7_ok nmX7 hown hK hI hMa rfl 3 (by decide) (hg _ wf_X7_21) (fun _ h9 => h9) rfl hnm rfl rfl rfl (Nat.le_of_ble_eq_true rfl) dX7_init_29 (fun H locs hI => ?_)
  obtain ⟨M, hI, hMa, hr1, hr2, hr3, hr4, hS⟩ : ∃ Mx : qM, qI D M0 s.heap Mx (a + 5) H locs ∧ Mx a = some (.inr (8, [.ref (a + 1), .ref (a + 2), .ref (a + 3), .ref (a + 4), .int 0])) ∧ qRow cs Mx (a + 1) (List.replicate 3 0) 3 ∧ qRow cs Mx (a + 2) (List.replicate 3 0) 3 ∧ qRow cs Mx (a + 3) (List.replicate 3 0) 3 ∧ qRow cs Mx (a + 4) (List.replicate 3 0) 3 ∧ qFr (qGe a) M0 Mx := ⟨_, hI, qUp_at _ _ _, hr1.same (qUp_ne (by omega)), hr2.same (qUp_ne (by omega)), hr3.same (qUp_ne (by omega)), hr4.same (qUp_ne (by omega)), hS.tr (qFr.up (k := 1) (by decide)) (fun q hq => by omega)⟩
  exact q_vret (st := []) hx hb hret hlk hN hI ⟨rfl, ⟨⟨hMa, hr1, hr2, hr3, hr4⟩, hS⟩, rfl⟩ dX7_init_32
def qQ0 : qQV := s_X5_makeEmpty ((List.replicate 16 0, List.replicate 16 0, 0), (List.replicate 16 0, List.replicate 16 0, List.replicate 16 0, 0), (List.replicate 3 0, List.replicate 3 0, List.replicate 3 0, List.replicate 3 0, 0), 0, 0, 0)
set_option maxHeartbeats 8000000 in
set_option maxRecDepth 20000 in
theorem c_X5_init (l : Launch) (D : va_G) (cs : qC) {M0 : qM} {a : Nat} (hMa : M0 a = some (.inr (6, [.null, .null, .null, .int 0, .int 0, .int 0]))) :
    qMet l D cs yX5_init (qws yX5_init cX5_init 1 none) ({ frames := 4, cells := 12, slots := 104, locals := 110 } : Room) M0 (a + 1) [.ref a] (qMod (a + 13) none (fun M' => (qLQ cs M' a qQ0) ∧ qFr (qGe a) M0 M')) 12 104 := by
  refine q_head (by decide) ?_ (Nat.le_of_ble_eq_true rfl)
  intro p e s m below meth c ls hx hb hret hlk hml hown hnm hg hK hN hI hl
  have hl : lv_has ls 1 [(0, .ref a)] := hl
  have hS : qFr (qGe a) M0 M0 := qFr.rf
  obtain ⟨locs, hlocs⟩ : ∃ z, ([] : List Loc) = z := ⟨_, rfl⟩
  rw [hlocs] at hI ⊢
  refine lv_aload_n hx hb dX5_init_0 rfl (lv_at hl 0 rfl) ?_
  refine q_objInit hx hb (hml.trans hl.1.symm) hg hown wo_X5 wo_inst wo_code dX5_init_1 (Nat.le_of_ble_eq_true rfl) (Nat.le_of_ble_eq_true rfl) ?_
  refine lv_aload_n hx hb dX5_init_4 rfl (lv_at hl 0 rfl) ?_
  refine q_new hx hb 2 hg in_X1 tyX1_ok hown wc_X5_9 wn_X1 wi_X1 hK hI rfl [.null, .null, .int 0] (fun j hj => by rcases (show j = 0 ∨ j = 1 ∨ j = 2 by omega) with rfl | rfl | rfl <;> rfl) (Nat.le_of_ble_eq_true rfl) (Nat.le_of_ble_eq_true rfl) dX5_init_5 (fun H hI => ?_)
  obtain ⟨M, hI, hMa, hx0, hS⟩ : ∃ Mx : qM, qI D M0 s.heap Mx (a + 2) H locs ∧ Mx a = some (.inr (6, [.null, .null, .null, .int 0, .int 0, .int 0])) ∧ Mx (a + 1) = some (.inr (2, [.null, .null, .int 0])) ∧ qFr (qGe a) M0 Mx := ⟨_, hI, (qUp_ne (by omega)).trans hMa, qUp_at _ _ _, hS.tr (qFr.up (k := 1) (by decide)) (fun q hq => by omega)⟩
  have hxo := hx0
  refine lv_dup hx hb dX5_init_8 rfl ?_
  refine q_go (q_runIN (As := []) (rest := [.ref (a + 1), .ref a]) hx hb hml hown hg (c_X1_init l D cs hxo) v_X1_init (hK.2 _ (List.mem_of_getElem? (i := 0) rfl)) rfl rfl ⟨Nat.le_of_ble_eq_true rfl, Nat.le_of_ble_eq_true rfl⟩ hI hK hl.1 rfl rfl (Nat.le_of_ble_eq_true rfl) dX5_init_9 ⟨Nat.le_of_ble_eq_true rfl, Nat.le_of_ble_eq_true rfl⟩) hI (fun r M N1 H locs hp hI => ?_)
  obtain ⟨rfl, ⟨hxn, hF⟩, rfl⟩ := hp
  replace hMa := (hF _ (by omega)).trans hMa
  replace hS := hS.tr hF (fun q hq => by omega)
  have hq1 : qLB cs M (a + 1) (List.replicate 16 0, List.replicate 16 0, 0) := hxn
  refine q_putF (v := .ref (a + 1)) hx hb hg in_X5 tyX5_ok nmX5 hown hK hI hMa rfl 0 (by decide) (hg _ wf_X5_12) (fun _ h9 => h9) rfl hnm rfl rfl rfl (Nat.le_of_ble_eq_true rfl) dX5_init_12 (fun H locs hI => ?_)
  obtain ⟨M, hI, hMa, hq1, hS⟩ : ∃ Mx : qM, qI D M0 s.heap Mx (a + 4) H locs ∧ Mx a = some (.inr (6, [.ref (a + 1), .null, .null, .int 0, .int 0, .int 0])) ∧ qLB cs Mx (a + 1) (List.replicate 16 0, List.replicate 16 0, 0) ∧ qFr (qGe a) M0 Mx := ⟨_, hI, qUp_at _ _ _, hq1.same (fun q h1 h2 => qUp_ne (by omega)), hS.tr (qFr.up (k := 1) (by decide)) (fun q hq => by omega)⟩
  refine lv_aload_n hx hb dX5_init_15 rfl (lv_at hl 0 rfl) ?_
  refine q_new hx hb 9 hg in_X8 tyX8_ok hown wc_X5_18 wn_X8 wi_X8 hK hI rfl [.null, .null, .null, .int 0] (fun j hj => by rcases (show j = 0 ∨ j = 1 ∨ j = 2 ∨ j = 3 by omega) with rfl | rfl | rfl | rfl <;> rfl) (Nat.le_of_ble_eq_true rfl) (Nat.le_of_ble_eq_true rfl) dX5_init_16 (fun H hI => ?_)
  obtain ⟨M, hI, hMa, hq1, hx0, hS⟩ : ∃ Mx : qM, qI D M0 s.heap Mx (a + 5) H locs ∧ Mx a = some (.inr (6, [.ref (a + 1), .null, .null, .int 0, .int 0, .int 0])) ∧ qLB cs Mx (a + 1) (List.replicate 16 0, List.replicate 16 0, 0) ∧ Mx (a + 4) = some (.inr (9, [.null, .null, .null, .int 0])) ∧ qFr (qGe a) M0 Mx := ⟨_, hI, (qUp_ne (by omega)).trans hMa, hq1.same (fun q h1 h2 => qUp_ne (by omega)), qUp_at _ _ _, hS.tr (qFr.up (k := 1) (by decide)) (fun q hq => by omega)⟩
  have hxo := hx0
  refine lv_dup hx hb dX5_init_19 rfl ?_
  refine q_go (q_runIN (As := []) (rest := [.ref (a + 4), .ref a]) hx hb hml hown hg (c_X8_init l D cs hxo) v_X8_init (hK.2 _ (List.mem_of_getElem? (i := 5) rfl)) rfl rfl ⟨Nat.le_of_ble_eq_true rfl, Nat.le_of_ble_eq_true rfl⟩ hI hK hl.1 rfl rfl (Nat.le_of_ble_eq_true rfl) dX5_init_20 ⟨Nat.le_of_ble_eq_true rfl, Nat.le_of_ble_eq_true rfl⟩) hI (fun r M N1 H locs hp hI => ?_)
  obtain ⟨rfl, ⟨hxn, hF⟩, rfl⟩ := hp
  replace hMa := (hF _ (by omega)).trans hMa
  replace hq1 := hq1.same (fun q h1 h2 => hF q (by omega))
  replace hS := hS.tr hF (fun q hq => by omega)
  have hq4 : qLT cs M (a + 4) (List.replicate 16 0, List.replicate 16 0, List.replicate 16 0, 0) := hxn
  refine q_putF (v := .ref (a + 4)) hx hb hg in_X5 tyX5_ok nmX5 hown hK hI hMa rfl 1 (by decide) (hg _ wf_X5_21) (fun _ h9 => h9) rfl hnm rfl rfl rfl (Nat.le_of_ble_eq_true rfl) dX5_init_23 (fun H locs hI => ?_)
  obtain ⟨M, hI, hMa, hq1, hq4, hS⟩ : ∃ Mx : qM, qI D M0 s.heap Mx (a + 8) H locs ∧ Mx a = some (.inr (6, [.ref (a + 1), .ref (a + 4), .null, .int 0, .int 0, .int 0])) ∧ qLB cs Mx (a + 1) (List.replicate 16 0, List.replicate 16 0, 0) ∧ qLT cs Mx (a + 4) (List.replicate 16 0, List.replicate 16 0, List.replicate 16 0, 0) ∧ qFr (qGe a) M0 Mx := ⟨_, hI, qUp_at _ _ _, hq1.same (fun q h1 h2 => qUp_ne (by omega)), hq4.same (fun q h1 h2 => qUp_ne (by omega)), hS.tr (qFr.up (k := 1) (by decide)) (fun q hq => by omega)⟩
  refine lv_aload_n hx hb dX5_init_26 rfl (lv_at hl 0 rfl) ?_
  refine q_new hx hb 8 hg in_X7 tyX7_ok hown wc_X5_25 wn_X7 wi_X7 hK hI rfl [.null, .null, .null, .null, .int 0] (fun j hj => by rcases (show j = 0 ∨ j = 1 ∨ j = 2 ∨ j = 3 ∨ j = 4 by omega) with rfl | rfl | rfl | rfl | rfl <;> rfl) (Nat.le_of_ble_eq_true rfl) (Nat.le_of_ble_eq_true rfl) dX5_init_27 (fun H hI => ?_)
  obtain ⟨M, hI, hMa, hq1, hq4, hx0, hS⟩ : ∃ Mx : qM, qI D M0 s.heap Mx (a + 9) H locs ∧ Mx a = some (.inr (6, [.ref (a + 1), .ref (a + 4), .null, .int 0, .int 0, .int 0])) ∧ qLB cs Mx (a + 1) (List.replicate 16 0, List.replicate 16 0, 0) ∧ qLT cs Mx (a + 4) (List.replicate 16 0, List.replicate 16 0, List.replicate 16 0, 0) ∧ Mx (a + 8) = some (.inr (8, [.null, .null, .null, .null, .int 0])) ∧ qFr (qGe a) M0 Mx := ⟨_, hI, (qUp_ne (by omega)).trans hMa, hq1.same (fun q h1 h2 => qUp_ne (by omega)), hq4.same (fun q h1 h2 => qUp_ne (by omega)), qUp_at _ _ _, hS.tr (qFr.up (k := 1) (by decide)) (fun q hq => by omega)⟩
  have hxo := hx0
  refine lv_dup hx hb dX5_init_30 rfl ?_
  refine q_go (q_runIN (As := []) (rest := [.ref (a + 8), .ref a]) hx hb hml hown hg (c_X7_init l D cs hxo) v_X7_init (hK.2 _ (List.mem_of_getElem? (i := 7) rfl)) rfl rfl ⟨Nat.le_of_ble_eq_true rfl, Nat.le_of_ble_eq_true rfl⟩ hI hK hl.1 rfl rfl (Nat.le_of_ble_eq_true rfl) dX5_init_31 ⟨Nat.le_of_ble_eq_true rfl, Nat.le_of_ble_eq_true rfl⟩) hI (fun r M N1 H locs hp hI => ?_)
  obtain ⟨rfl, ⟨hxn, hF⟩, rfl⟩ := hp
  replace hMa := (hF _ (by omega)).trans hMa
  replace hq1 := hq1.same (fun q h1 h2 => hF q (by omega))
  replace hq4 := hq4.same (fun q h1 h2 => hF q (by omega))
  replace hS := hS.tr hF (fun q hq => by omega)
  have hq8 : qLS cs M (a + 8) (List.replicate 3 0, List.replicate 3 0, List.replicate 3 0, List.replicate 3 0, 0) := hxn
  refine q_putF (v := .ref (a + 8)) hx hb hg in_X5 tyX5_ok nmX5 hown hK hI hMa rfl 2 (by decide) (hg _ wf_X5_28) (fun _ h9 => h9) rfl hnm rfl rfl rfl (Nat.le_of_ble_eq_true rfl) dX5_init_34 (fun H locs hI => ?_)
  obtain ⟨M, hI, hMa, hq1, hq4, hq8, hS⟩ : ∃ Mx : qM, qI D M0 s.heap Mx (a + 13) H locs ∧ Mx a = some (.inr (6, [.ref (a + 1), .ref (a + 4), .ref (a + 8), .int 0, .int 0, .int 0])) ∧ qLB cs Mx (a + 1) (List.replicate 16 0, List.replicate 16 0, 0) ∧ qLT cs Mx (a + 4) (List.replicate 16 0, List.replicate 16 0, List.replicate 16 0, 0) ∧ qLS cs Mx (a + 8) (List.replicate 3 0, List.replicate 3 0, List.replicate 3 0, List.replicate 3 0, 0) ∧ qFr (qGe a) M0 Mx := ⟨_, hI, qUp_at _ _ _, hq1.same (fun q h1 h2 => qUp_ne (by omega)), hq4.same (fun q h1 h2 => qUp_ne (by omega)), hq8.same (fun q h1 h2 => qUp_ne (by omega)), hS.tr (qFr.up (k := 1) (by decide)) (fun q hq => by omega)⟩
  refine lv_aload_n hx hb dX5_init_37 rfl (lv_at hl 0 rfl) ?_
  have hL0 : qLQ cs M a ((List.replicate 16 0, List.replicate 16 0, 0), (List.replicate 16 0, List.replicate 16 0, List.replicate 16 0, 0), (List.replicate 3 0, List.replicate 3 0, List.replicate 3 0, List.replicate 3 0, 0), 0, 0, 0) := ⟨hMa, hq1, hq4, hq8⟩
  refine q_goN (q_runV (As := []) (rest := []) hx hb hml hown hg (c_X5_makeEmpty l D cs hL0) v_X5_makeEmpty wl_X5_32 rfl rfl ⟨Nat.le_of_ble_eq_true rfl, Nat.le_of_ble_eq_true rfl⟩ hI hK 6 hMa rfl hl.1 rfl rfl (Nat.le_of_ble_eq_true rfl) dX5_init_38 ⟨Nat.le_of_ble_eq_true rfl, Nat.le_of_ble_eq_true rfl⟩) hI (fun M H locs hp hI => ?_)
  obtain ⟨hL0, hF⟩ := hp
  replace hS := hS.tr hF (fun q hq => by omega)
  exact q_vret (st := []) hx hb hret hlk hN hI ⟨rfl, ⟨hL0, hS⟩, rfl⟩ dX5_init_41
set_option maxHeartbeats 8000000 in
set_option maxRecDepth 20000 in
theorem c_X6_init (l : Launch) (D : va_G) (cs : qC) {M0 : qM} {a : Nat} (hMa : M0 a = some (.inr (7, [.int 0, .int 0, .int 0, .int 0]))) :
    qMet l D cs yX6_init (qws yX6_init cX6_init 1 none) ({ frames := 1, cells := 0, slots := 0, locals := 20 } : Room) M0 (a + 1) [.ref a] (qMod (a + 1) none (fun M' => (qLR cs M' a (0, 0, 0, 0)) ∧ qFr (qGe a) M0 M')) 0 0 := by
  refine q_head (by decide) ?_ (Nat.le_of_ble_eq_true rfl)
  intro p e s m below meth c ls hx hb hret hlk hml hown hnm hg hK hN hI hl
  have hl : lv_has ls 1 [(0, .ref a)] := hl
  have hS : qFr (qGe a) M0 M0 := qFr.rf
  obtain ⟨locs, hlocs⟩ : ∃ z, ([] : List Loc) = z := ⟨_, rfl⟩
  rw [hlocs] at hI ⊢
  refine lv_aload_n hx hb dX6_init_0 rfl (lv_at hl 0 rfl) ?_
  refine q_objInit hx hb (hml.trans hl.1.symm) hg hown wo_X6 wo_inst wo_code dX6_init_1 (Nat.le_of_ble_eq_true rfl) (Nat.le_of_ble_eq_true rfl) ?_
  exact q_vret (st := []) hx hb hret hlk hN hI ⟨rfl, ⟨hMa, hS⟩, rfl⟩ dX6_init_4
set_option maxHeartbeats 8000000 in
set_option maxRecDepth 20000 in
theorem c_X4_init (l : Launch) (D : va_G) (cs : qC) {M0 : qM} {a : Nat} (hMa : M0 a = some (.inr (5, [.null, .int 0]))) :
    qMet l D cs yX4_init (qws yX4_init cX4_init 1 none) ({ frames := 1, cells := 1, slots := 54, locals := 20 } : Room) M0 (a + 1) [.ref a] (qMod (a + 2) none (fun M' => (qLN cs M' a (List.replicate 54 0, 0)) ∧ qFr (qGe a) M0 M')) 1 54 := by
  refine q_head (by decide) ?_ (Nat.le_of_ble_eq_true rfl)
  intro p e s m below meth c ls hx hb hret hlk hml hown hnm hg hK hN hI hl
  have hl : lv_has ls 1 [(0, .ref a)] := hl
  have hS : qFr (qGe a) M0 M0 := qFr.rf
  obtain ⟨locs, hlocs⟩ : ∃ z, ([] : List Loc) = z := ⟨_, rfl⟩
  rw [hlocs] at hI ⊢
  refine lv_aload_n hx hb dX4_init_0 rfl (lv_at hl 0 rfl) ?_
  refine q_objInit hx hb (hml.trans hl.1.symm) hg hown wo_X4 wo_inst wo_code dX4_init_1 (Nat.le_of_ble_eq_true rfl) (Nat.le_of_ble_eq_true rfl) ?_
  refine lv_aload_n hx hb dX4_init_4 rfl (lv_at hl 0 rfl) ?_
  refine lv_bipush (v := 54) hx hb dX4_init_5 (by decide) ?_
  refine q_newI hx hb hg wa_int hK hI 54 (by decide) (by decide) (by decide) (Nat.le_of_ble_eq_true rfl) (Nat.le_of_ble_eq_true rfl) dX4_init_7 (fun H hI => ?_)
  obtain ⟨M, hI, hMa, hx0, hS⟩ : ∃ Mx : qM, qI D M0 s.heap Mx (a + 2) H locs ∧ Mx a = some (.inr (5, [.null, .int 0])) ∧ qRow cs Mx (a + 1) (List.replicate 54 0) 54 ∧ qFr (qGe a) M0 Mx := ⟨_, hI, (qUp_ne (by omega)).trans hMa, ⟨qUp_at _ _ _, by simp, by decide⟩, hS.tr (qFr.up (k := 1) (by decide)) (fun q hq => by omega)⟩
  have hr1 := hx0
  refine q_putF (v := .ref (a + 1)) hx hb hg in_X4 tyX4_ok nmX4 hown hK hI hMa rfl 0 (by decide) (hg _ wf_X4_9) (fun _ h9 => h9) rfl hnm rfl rfl rfl (Nat.le_of_ble_eq_true rfl) dX4_init_9 (fun H locs hI => ?_)
  obtain ⟨M, hI, hMa, hr1, hS⟩ : ∃ Mx : qM, qI D M0 s.heap Mx (a + 2) H locs ∧ Mx a = some (.inr (5, [.ref (a + 1), .int 0])) ∧ qRow cs Mx (a + 1) (List.replicate 54 0) 54 ∧ qFr (qGe a) M0 Mx := ⟨_, hI, qUp_at _ _ _, hr1.same (qUp_ne (by omega)), hS.tr (qFr.up (k := 1) (by decide)) (fun q hq => by omega)⟩
  exact q_vret (st := []) hx hb hret hlk hN hI ⟨rfl, ⟨⟨hMa, hr1⟩, hS⟩, rfl⟩ dX4_init_12
def qI0 : qIV := (List.replicate 60 0, List.replicate 60 (-1), List.replicate 60 0, List.replicate 60 0, 0, 0, 0)
theorem qWrep (j : Nat) : (List.replicate 60 (-1 : Int32)).getD j (-1) = -1 := by
  simp only [List.getD, List.getElem?_replicate]
  split <;> rfl
theorem qWrow0 (cs : qC) : (.inl (cs 2, 60, .inr (.inr (.inr (.inr (fun _ => none))))) : va_E) = qWrow cs (List.replicate 60 (-1)) := by
  unfold qWrow
  congr 7
  funext j
  rw [qWrep]
  rfl
set_option maxHeartbeats 8000000 in
set_option maxRecDepth 20000 in
theorem c_X3_init (l : Launch) (D : va_G) (cs : qC) {M0 : qM} {a : Nat} (hMa : M0 a = some (.inr (4, [.null, .null, .null, .null, .int 0, .int 0, .int 0]))) :
    qMet l D cs yX3_init (qws yX3_init cX3_init 1 none) ({ frames := 1, cells := 4, slots := 240, locals := 20 } : Room) M0 (a + 1) [.ref a] (qMod (a + 5) none (fun M' => (qLI cs M' a qI0) ∧ qFr (qGe a) M0 M')) 4 240 := by
  refine q_head (by decide) ?_ (Nat.le_of_ble_eq_true rfl)
  intro p e s m below meth c ls hx hb hret hlk hml hown hnm hg hK hN hI hl
  have hl : lv_has ls 1 [(0, .ref a)] := hl
  have hS : qFr (qGe a) M0 M0 := qFr.rf
  obtain ⟨locs, hlocs⟩ : ∃ z, ([] : List Loc) = z := ⟨_, rfl⟩
  rw [hlocs] at hI ⊢
  refine lv_aload_n hx hb dX3_init_0 rfl (lv_at hl 0 rfl) ?_
  refine q_objInit hx hb (hml.trans hl.1.symm) hg hown wo_X3 wo_inst wo_code dX3_init_1 (Nat.le_of_ble_eq_true rfl) (Nat.le_of_ble_eq_true rfl) ?_
  refine lv_aload_n hx hb dX3_init_4 rfl (lv_at hl 0 rfl) ?_
  refine lv_bipush (v := 60) hx hb dX3_init_5 (by decide) ?_
  refine q_newI hx hb hg wa_int hK hI 60 (by decide) (by decide) (by decide) (Nat.le_of_ble_eq_true rfl) (Nat.le_of_ble_eq_true rfl) dX3_init_7 (fun H hI => ?_)
  obtain ⟨M, hI, hMa, hx0, hS⟩ : ∃ Mx : qM, qI D M0 s.heap Mx (a + 2) H locs ∧ Mx a = some (.inr (4, [.null, .null, .null, .null, .int 0, .int 0, .int 0])) ∧ qRow cs Mx (a + 1) (List.replicate 60 0) 60 ∧ qFr (qGe a) M0 Mx := ⟨_, hI, (qUp_ne (by omega)).trans hMa, ⟨qUp_at _ _ _, by simp, by decide⟩, hS.tr (qFr.up (k := 1) (by decide)) (fun q hq => by omega)⟩
  have hr1 := hx0
  refine q_putF (v := .ref (a + 1)) hx hb hg in_X3 tyX3_ok nmX3 hown hK hI hMa rfl 0 (by decide) (hg _ wf_X3_9) (fun _ h9 => h9) rfl hnm rfl rfl rfl (Nat.le_of_ble_eq_true rfl) dX3_init_9 (fun H locs hI => ?_)
  obtain ⟨M, hI, hMa, hr1, hS⟩ : ∃ Mx : qM, qI D M0 s.heap Mx (a + 2) H locs ∧ Mx a = some (.inr (4, [.ref (a + 1), .null, .null, .null, .int 0, .int 0, .int 0])) ∧ qRow cs Mx (a + 1) (List.replicate 60 0) 60 ∧ qFr (qGe a) M0 Mx := ⟨_, hI, qUp_at _ _ _, hr1.same (qUp_ne (by omega)), hS.tr (qFr.up (k := 1) (by decide)) (fun q hq => by omega)⟩
  refine lv_aload_n hx hb dX3_init_12 rfl (lv_at hl 0 rfl) ?_
  refine lv_bipush (v := 60) hx hb dX3_init_13 (by decide) ?_
  refine q_newQ hx hb hg hown wc_X3_15 (hK.2 _ (List.mem_of_getElem? (i := 52) rfl)) hK hI 2 rfl 60 (by decide) (by decide) (by decide) (Nat.le_of_ble_eq_true rfl) (Nat.le_of_ble_eq_true rfl) dX3_init_15 (fun H hI => ?_)
  obtain ⟨M, hI, hMa, hr1, hx0, hS⟩ : ∃ Mx : qM, qI D M0 s.heap Mx (a + 3) H locs ∧ Mx a = some (.inr (4, [.ref (a + 1), .null, .null, .null, .int 0, .int 0, .int 0])) ∧ qRow cs Mx (a + 1) (List.replicate 60 0) 60 ∧ Mx (a + 2) = some (.inl (cs 2, 60, .inr (.inr (.inr (.inr (fun _ => none)))))) ∧ qFr (qGe a) M0 Mx := ⟨_, hI, (qUp_ne (by omega)).trans hMa, hr1.same (qUp_ne (by omega)), qUp_at _ _ _, hS.tr (qFr.up (k := 1) (by decide)) (fun q hq => by omega)⟩
  have hr2 := hx0
  refine q_putF (v := .ref (a + 2)) hx hb hg in_X3 tyX3_ok nmX3 hown hK hI hMa rfl 1 (by decide) (hg _ wf_X3_17) (fun _ h9 => h9) rfl hnm rfl rfl rfl (Nat.le_of_ble_eq_true rfl) dX3_init_18 (fun H locs hI => ?_)
  obtain ⟨M, hI, hMa, hr1, hr2, hS⟩ : ∃ Mx : qM, qI D M0 s.heap Mx (a + 3) H locs ∧ Mx a = some (.inr (4, [.ref (a + 1), .ref (a + 2), .null, .null, .int 0, .int 0, .int 0])) ∧ qRow cs Mx (a + 1) (List.replicate 60 0) 60 ∧ Mx (a + 2) = some (.inl (cs 2, 60, .inr (.inr (.inr (.inr (fun _ => none)))))) ∧ qFr (qGe a) M0 Mx := ⟨_, hI, qUp_at _ _ _, hr1.same (qUp_ne (by omega)), (qUp_ne (by omega)).trans hr2, hS.tr (qFr.up (k := 1) (by decide)) (fun q hq => by omega)⟩
  refine lv_aload_n hx hb dX3_init_21 rfl (lv_at hl 0 rfl) ?_
  refine lv_bipush (v := 60) hx hb dX3_init_22 (by decide) ?_
  refine q_newI hx hb hg wa_int hK hI 60 (by decide) (by decide) (by decide) (Nat.le_of_ble_eq_true rfl) (Nat.le_of_ble_eq_true rfl) dX3_init_24 (fun H hI => ?_)
  obtain ⟨M, hI, hMa, hr1, hr2, hx0, hS⟩ : ∃ Mx : qM, qI D M0 s.heap Mx (a + 4) H locs ∧ Mx a = some (.inr (4, [.ref (a + 1), .ref (a + 2), .null, .null, .int 0, .int 0, .int 0])) ∧ qRow cs Mx (a + 1) (List.replicate 60 0) 60 ∧ Mx (a + 2) = some (.inl (cs 2, 60, .inr (.inr (.inr (.inr (fun _ => none)))))) ∧ qRow cs Mx (a + 3) (List.replicate 60 0) 60 ∧ qFr (qGe a) M0 Mx := ⟨_, hI, (qUp_ne (by omega)).trans hMa, hr1.same (qUp_ne (by omega)), (qUp_ne (by omega)).trans hr2, ⟨qUp_at _ _ _, by simp, by decide⟩, hS.tr (qFr.up (k := 1) (by decide)) (fun q hq => by omega)⟩
  have hr3 := hx0
  refine q_putF (v := .ref (a + 3)) hx hb hg in_X3 tyX3_ok nmX3 hown hK hI hMa rfl 2 (by decide) (hg _ wf_X3_21) (fun _ h9 => h9) rfl hnm rfl rfl rfl (Nat.le_of_ble_eq_true rfl) dX3_init_26 (fun H locs hI => ?_)
  obtain ⟨M, hI, hMa, hr1, hr2, hr3, hS⟩ : ∃ Mx : qM, qI D M0 s.heap Mx (a + 4) H locs ∧ Mx a = some (.inr (4, [.ref (a + 1), .ref (a + 2), .ref (a + 3), .null, .int 0, .int 0, .int 0])) ∧ qRow cs Mx (a + 1) (List.replicate 60 0) 60 ∧ Mx (a + 2) = some (.inl (cs 2, 60, .inr (.inr (.inr (.inr (fun _ => none)))))) ∧ qRow cs Mx (a + 3) (List.replicate 60 0) 60 ∧ qFr (qGe a) M0 Mx := ⟨_, hI, qUp_at _ _ _, hr1.same (qUp_ne (by omega)), (qUp_ne (by omega)).trans hr2, hr3.same (qUp_ne (by omega)), hS.tr (qFr.up (k := 1) (by decide)) (fun q hq => by omega)⟩
  refine lv_aload_n hx hb dX3_init_29 rfl (lv_at hl 0 rfl) ?_
  refine lv_bipush (v := 60) hx hb dX3_init_30 (by decide) ?_
  refine q_newI hx hb hg wa_int hK hI 60 (by decide) (by decide) (by decide) (Nat.le_of_ble_eq_true rfl) (Nat.le_of_ble_eq_true rfl) dX3_init_32 (fun H hI => ?_)
  obtain ⟨M, hI, hMa, hr1, hr2, hr3, hx0, hS⟩ : ∃ Mx : qM, qI D M0 s.heap Mx (a + 5) H locs ∧ Mx a = some (.inr (4, [.ref (a + 1), .ref (a + 2), .ref (a + 3), .null, .int 0, .int 0, .int 0])) ∧ qRow cs Mx (a + 1) (List.replicate 60 0) 60 ∧ Mx (a + 2) = some (.inl (cs 2, 60, .inr (.inr (.inr (.inr (fun _ => none)))))) ∧ qRow cs Mx (a + 3) (List.replicate 60 0) 60 ∧ qRow cs Mx (a + 4) (List.replicate 60 0) 60 ∧ qFr (qGe a) M0 Mx := ⟨_, hI, (qUp_ne (by omega)).trans hMa, hr1.same (qUp_ne (by omega)), (qUp_ne (by omega)).trans hr2, hr3.same (qUp_ne (by omega)), ⟨qUp_at _ _ _, by simp, by decide⟩, hS.tr (qFr.up (k := 1) (by decide)) (fun q hq => by omega)⟩
  have hr4 := hx0
  refine q_putF (v := .ref (a + 4)) hx hb hg in_X3 tyX3_ok nmX3 hown hK hI hMa rfl 3 (by decide) (hg _ wf_X3_24) (fun _ h9 => h9) rfl hnm rfl rfl rfl (Nat.le_of_ble_eq_true rfl) dX3_init_34 (fun H locs hI => ?_)
  obtain ⟨M, hI, hMa, hr1, hr2, hr3, hr4, hS⟩ : ∃ Mx : qM, qI D M0 s.heap Mx (a + 5) H locs ∧ Mx a = some (.inr (4, [.ref (a + 1), .ref (a + 2), .ref (a + 3), .ref (a + 4), .int 0, .int 0, .int 0])) ∧ qRow cs Mx (a + 1) (List.replicate 60 0) 60 ∧ Mx (a + 2) = some (.inl (cs 2, 60, .inr (.inr (.inr (.inr (fun _ => none)))))) ∧ qRow cs Mx (a + 3) (List.replicate 60 0) 60 ∧ qRow cs Mx (a + 4) (List.replicate 60 0) 60 ∧ qFr (qGe a) M0 Mx := ⟨_, hI, qUp_at _ _ _, hr1.same (qUp_ne (by omega)), (qUp_ne (by omega)).trans hr2, hr3.same (qUp_ne (by omega)), hr4.same (qUp_ne (by omega)), hS.tr (qFr.up (k := 1) (by decide)) (fun q hq => by omega)⟩
  exact q_vret (st := []) hx hb hret hlk hN hI ⟨rfl, ⟨⟨hMa, hr1, hr3, hr4, hr2.trans (congrArg some (qWrow0 cs)), rfl, fun j => by rw [show qI0.2.1 = List.replicate 60 (-1) from rfl, qWrep]; decide⟩, hS⟩, rfl⟩ dX3_init_37
def qH0 : qHV := (fun _ => qQ0, 0, 0)
set_option maxHeartbeats 8000000 in
set_option maxRecDepth 20000 in
theorem c_X2_init (l : Launch) (D : va_G) (cs : qC) {M0 : qM} {a : Nat} (hMa : M0 a = some (.inr (3, [.null, .int 0, .int 0]))) :
    qMet l D cs yX2_init (qws yX2_init cX2_init 2 none) ({ frames := 6, cells := 118, slots := 999, locals := 150 } : Room) M0 (a + 1) [.ref a] (qMod (a + 119) none (fun M' => (qLH cs M' a qH0) ∧ qFr (qGe a) M0 M')) 118 999 := by
  refine q_head (by decide) ?_ (Nat.le_of_ble_eq_true rfl)
  intro p e s m below meth c ls hx hb hret hlk hml hown hnm hg hK hN hI hl
  have hl : lv_has ls 2 [(0, .ref a)] := hl
  have hS : qFr (qGe a) M0 M0 := qFr.rf
  obtain ⟨locs, hlocs⟩ : ∃ z, ([] : List Loc) = z := ⟨_, rfl⟩
  rw [hlocs] at hI ⊢
  refine lv_aload_n hx hb dX2_init_0 rfl (lv_at hl 0 rfl) ?_
  refine q_objInit hx hb (hml.trans hl.1.symm) hg hown wo_X2 wo_inst wo_code dX2_init_1 (Nat.le_of_ble_eq_true rfl) (Nat.le_of_ble_eq_true rfl) ?_
  refine lv_aload_n hx hb dX2_init_4 rfl (lv_at hl 0 rfl) ?_
  refine lv_bipush (v := 9) hx hb dX2_init_5 (by decide) ?_
  refine q_newQ hx hb hg hown wc_X2_11 (hK.2 _ (List.mem_of_getElem? (i := 51) rfl)) hK hI 1 rfl 9 (by decide) (by decide) (by decide) (Nat.le_of_ble_eq_true rfl) (Nat.le_of_ble_eq_true rfl) dX2_init_7 (fun H hI => ?_)
  obtain ⟨M, hI, hMa, hr, hS⟩ : ∃ Mx : qM, qI D M0 s.heap Mx (a + 2) H locs ∧ Mx a = some (.inr (3, [.null, .int 0, .int 0])) ∧ Mx (a + 1) = some (.inl (cs 1, 9, .inr (.inr (.inr (.inr (fun _ => none)))))) ∧ qFr (qGe a) M0 Mx := ⟨_, hI, (qUp_ne (by omega)).trans hMa, qUp_at _ _ _, hS.tr (qFr.up (k := 1) (by decide)) (fun q hq => by omega)⟩
  refine q_putF (v := .ref (a + 1)) hx hb hg in_X2 tyX2_ok nmX2 hown hK hI hMa rfl 0 (by decide) (hg _ wf_X2_13) (fun _ h9 => h9) rfl hnm rfl rfl rfl (Nat.le_of_ble_eq_true rfl) dX2_init_10 (fun H locs hI => ?_)
  obtain ⟨M, hI, hMa, hr, hS⟩ : ∃ Mx : qM, qI D M0 s.heap Mx (a + 2) H locs ∧ Mx a = some (.inr (3, [.ref (a + 1), .int 0, .int 0])) ∧ Mx (a + 1) = some (.inl (cs 1, 9, .inr (.inr (.inr (.inr (fun _ => none)))))) ∧ qFr (qGe a) M0 Mx := ⟨_, hI, qUp_at _ _ _, (qUp_ne (by omega)).trans hr, hS.tr (qFr.up (k := 1) (by decide)) (fun q hq => by omega)⟩
  refine lv_iconst (v := nI 0) hx hb dX2_init_13 (by decide) ?_
  refine lv_istore_n (lv' := [(1, .int (nI 0)), (0, .ref a)]) hx hb dX2_init_14 rfl hl (by decide) rfl (fun ls hl => ?_)
  have loop : ∀ (n j : Nat), n + j = 9 → ∀ (M : qM) (H : Heap) (locs : List Loc) (ls : Array Slot), qI D M0 s.heap M (a + 2 + 13 * j) H locs → M a = some (.inr (3, [.ref (a + 1), .int 0, .int 0])) → (∃ f : Nat → Option Nat, M (a + 1) = some (.inl (cs 1, 9, .inr (.inr (.inr (.inr f))))) ∧ ∀ i : Nat, i < j → f i = some (a + 2 + 13 * i)) → (∀ i : Nat, i < j → qLQ cs M (a + 2 + 13 * i) qQ0) → qFr (qGe a) M0 M → lv_has ls 2 [(1, .int (nI j)), (0, .ref a)] →
      W p l e ({ frames := 6, cells := 118, slots := 999, locals := 150 } : Room) s m [Value.ref a].toArray below meth c H locs (1 + 13 * j) (9 + 110 * j) (MQ below (qQ D M0 (a + 1) (qMod (a + 119) none (fun M' => (qLH cs M' a qH0) ∧ qFr (qGe a) M0 M'))) [Value.ref a].toArray s 118 999 (qA M0 (a + 1))) (F0 m 15 ls []) := by
    intro n
    induction n with
    | zero =>
      intro j hj M H locs ls hI hMa hf hq hS hl
      obtain rfl : j = 9 := by omega
      obtain ⟨f, hf1, hf2⟩ := hf
      refine lv_iload_n hx hb dX2_init_15 rfl (lv_at hl 0 rfl) ?_
      refine lv_aload_n hx hb dX2_init_16 rfl (lv_at hl 1 rfl) ?_
      refine q_get hx hb hg in_X2 hown hK hI hMa rfl 0 (by decide) (hg _ wf_X2_13) (fun _ h9 => h9) rfl dX2_init_17 ?_
      refine q_alen hx hb hK hI 1 rfl hf1 (v := 9) rfl dX2_init_20 ?_
      refine lv_icmp_ge (tgt := 43) hx hb dX2_init_21 (by decide) (fun c2 => ?_) (fun c2 => absurd (by decide) c2)
      exact q_vret (st := []) hx hb hret hlk hN hI ⟨rfl, ⟨⟨hMa, ⟨f, hf1, hf2⟩, hq⟩, hS⟩, rfl⟩ dX2_init_43
    | succ n ih =>
      intro j hj M H locs ls hI hMa hf hq hS hl
      obtain ⟨f, hf1, hf2⟩ := hf
      refine lv_iload_n hx hb dX2_init_15 rfl (lv_at hl 0 rfl) ?_
      refine lv_aload_n hx hb dX2_init_16 rfl (lv_at hl 1 rfl) ?_
      refine q_get hx hb hg in_X2 hown hK hI hMa rfl 0 (by decide) (hg _ wf_X2_13) (fun _ h9 => h9) rfl dX2_init_17 ?_
      refine q_alen hx hb hK hI 1 rfl hf1 (v := 9) rfl dX2_init_20 ?_
      refine lv_icmp_ge (tgt := 43) hx hb dX2_init_21 (by decide) (fun c2 => absurd c2 (nI_ge (b := 9) (by omega) (by decide))) (fun c2 => ?_)
      refine lv_aload_n hx hb dX2_init_24 rfl (lv_at hl 1 rfl) ?_
      refine q_get hx hb hg in_X2 hown hK hI hMa rfl 0 (by decide) (hg _ wf_X2_13) (fun _ h9 => h9) rfl dX2_init_25 ?_
      refine lv_iload_n hx hb dX2_init_28 rfl (lv_at hl 0 rfl) ?_
      refine q_new hx hb 6 hg in_X5 tyX5_ok hown wc_X2_11 wn_X5 wi_X5 hK hI rfl [.null, .null, .null, .int 0, .int 0, .int 0] (fun j hj => by rcases (show j = 0 ∨ j = 1 ∨ j = 2 ∨ j = 3 ∨ j = 4 ∨ j = 5 by omega) with rfl | rfl | rfl | rfl | rfl | rfl <;> rfl) (by show _ ≤ 118; omega) (by show _ ≤ 999; omega) dX2_init_29 (fun H hI => ?_)
      obtain ⟨M, hI, hMa, hf1, hq, hxo, hS⟩ : ∃ Mx : qM, qI D M0 s.heap Mx (a + 2 + 13 * j + 1) H locs ∧ Mx a = some (.inr (3, [.ref (a + 1), .int 0, .int 0])) ∧ Mx (a + 1) = some (.inl (cs 1, 9, .inr (.inr (.inr (.inr f))))) ∧ (∀ i : Nat, i < j → qLQ cs Mx (a + 2 + 13 * i) qQ0) ∧ Mx (a + 2 + 13 * j) = some (.inr (6, [.null, .null, .null, .int 0, .int 0, .int 0])) ∧ qFr (qGe a) M0 Mx := ⟨_, hI, (qUp_ne (by omega)).trans hMa, (qUp_ne (by omega)).trans hf1, fun i hi => (hq i hi).same (fun q h1 h2 => qUp_ne (by omega)), qUp_at _ _ _, hS.tr (qFr.up (k := 1) (by decide)) (fun q hq => by omega)⟩
      refine lv_dup hx hb dX2_init_32 rfl ?_
      refine q_go (q_runI (As := []) (rest := [.ref (a + 2 + 13 * j), .int (nI j), .ref (a + 1)]) hx hb hml hown hg (c_X5_init l D cs hxo) v_X5_init wl_X2_17 rfl rfl ⟨Nat.le_of_ble_eq_true rfl, Nat.le_of_ble_eq_true rfl⟩ hI hK hl.1 rfl rfl (Nat.le_of_ble_eq_true rfl) dX2_init_33 ⟨by show _ ≤ 118; omega, by show _ ≤ 999; omega⟩) hI (fun r M N1 H locs hp hI => ?_)
      obtain ⟨rfl, ⟨hxn, hF⟩, rfl⟩ := hp
      replace hMa := (hF _ (by omega)).trans hMa
      replace hf1 := (hF _ (by omega)).trans hf1
      replace hq := fun i hi => (hq i hi).same (fun q h1 h2 => hF q (by omega))
      replace hS := hS.tr hF (fun q hq => by omega)
      have hjn : (nI j).toNatClampNeg = j := nI_clamp (by omega)
      refine q_aast hx hb hK hI 1 (r := (RX5, TX5, 6)) (ci := 6) rfl hf1 hxn.1 rfl (by unfold vp_in; rw [hjn]; intro h; rcases h with h | h; exact nI_pos (by omega) h; omega) dX2_init_36 (fun H locs hI => ?_)
      rw [hjn] at hI
      obtain ⟨M, hI, hMa, hf1, hq, hS⟩ : ∃ Mx : qM, qI D M0 s.heap Mx (a + 2 + 13 * (j + 1)) H locs ∧ Mx a = some (.inr (3, [.ref (a + 1), .int 0, .int 0])) ∧ Mx (a + 1) = some (.inl (cs 1, 9, .inr (.inr (.inr (.inr (va_up f j (some (a + 2 + 13 * j)))))))) ∧ (∀ i : Nat, i < j + 1 → qLQ cs Mx (a + 2 + 13 * i) qQ0) ∧ qFr (qGe a) M0 Mx := by
        refine ⟨_, by rw [show a + 2 + 13 * (j + 1) = a + 2 + 13 * j + 13 by omega]; exact hI, (qUp_ne (by omega)).trans hMa, qUp_at _ _ _, fun i hi => ?_, hS.tr (qFr.up (k := 1) (by decide)) (fun q hq => by omega)⟩
        by_cases hij : i = j
        · subst hij; exact hxn.same (fun q h1 h2 => qUp_ne (by omega))
        · exact (hq i (by omega)).same (fun q h1 h2 => qUp_ne (by omega))
      refine lv_iinc (v := nI (j + 1)) (lv' := [(1, .int (nI (j + 1))), (0, .ref a)]) hx hb dX2_init_37 hl (k := 0) rfl (by rw [nI_succ]; rfl) (by decide) rfl (fun ls hl => ?_)
      refine lv_goto (tgt := 15) hx hb dX2_init_40 (by decide) ?_
      refine W.widen (k := 1 + 13 * (j + 1)) (n := 9 + 110 * (j + 1)) (by omega) (by omega) ?_
      refine ih (j + 1) (by omega) M H locs ls hI hMa ⟨_, hf1, fun i hi => ?_⟩ hq hS hl
      by_cases hij : i = j
      · subst hij; simp [va_up]
      · simp only [va_up, if_neg hij]; exact hf2 i (by omega)
  exact loop 9 0 rfl M H locs ls hI hMa ⟨_, hr, fun i hi => absurd hi (Nat.not_lt_zero _)⟩ (fun i hi => absurd hi (Nat.not_lt_zero _)) hS hl
def qAll (cs : qC) (M : qM) (a : Nat) (f : Int32 × Int32) (q qk qt : qQV) (h : qHV) (i : qIV) (n : qNV) (rs : qRV) : Prop := qLX cs M a f ∧ qLQ cs M (a + 1) q ∧ qLQ cs M (a + 14) qk ∧ qLQ cs M (a + 27) qt ∧ qLH cs M (a + 40) h ∧ qLI cs M (a + 159) i ∧ qLN cs M (a + 164) n ∧ qLR cs M (a + 166) rs
set_option maxHeartbeats 8000000 in
set_option maxRecDepth 20000 in
theorem c_X10_init (l : Launch) (D : va_G) (cs : qC) {M0 : qM} {a : Nat} (hMa : M0 a = some (.inr (10, [.null, .null, .null, .null, .null, .null, .null, .int 0, .int 0]))) :
    qMet l D cs yX10_init (qws yX10_init cX10_init 1 none) ({ frames := 7, cells := 166, slots := 1639, locals := 171 } : Room) M0 (a + 1) [.ref a] (qMod (a + 167) none (fun M' => (qAll cs M' a (-4, 0) qQ0 qQ0 qQ0 qH0 qI0 (List.replicate 54 0, 0) (0, 0, 0, 0)) ∧ qFr (qGe a) M0 M')) 166 1639 := by
  refine q_head (by decide) ?_ (Nat.le_of_ble_eq_true rfl)
  intro p e s m below meth c ls hx hb hret hlk hml hown hnm hg hK hN hI hl
  have hl : lv_has ls 1 [(0, .ref a)] := hl
  have hS : qFr (qGe a) M0 M0 := qFr.rf
  obtain ⟨locs, hlocs⟩ : ∃ z, ([] : List Loc) = z := ⟨_, rfl⟩
  rw [hlocs] at hI ⊢
  refine lv_aload_n hx hb dX10_init_0 rfl (lv_at hl 0 rfl) ?_
  refine q_objInit hx hb (hml.trans hl.1.symm) hg hown wo_X10 wo_inst wo_code dX10_init_1 (Nat.le_of_ble_eq_true rfl) (Nat.le_of_ble_eq_true rfl) ?_
  refine lv_aload_n hx hb dX10_init_4 rfl (lv_at hl 0 rfl) ?_
  refine q_new hx hb 6 hg in_X5 tyX5_ok hown wc_X10_7 wn_X5 wi_X5 hK hI rfl [.null, .null, .null, .int 0, .int 0, .int 0] (fun j hj => by rcases (show j = 0 ∨ j = 1 ∨ j = 2 ∨ j = 3 ∨ j = 4 ∨ j = 5 by omega) with rfl | rfl | rfl | rfl | rfl | rfl <;> rfl) (Nat.le_of_ble_eq_true rfl) (Nat.le_of_ble_eq_true rfl) dX10_init_5 (fun H hI => ?_)
  obtain ⟨M, hI, hMa, hx0, hS⟩ : ∃ Mx : qM, qI D M0 s.heap Mx (a + 2) H locs ∧ Mx a = some (.inr (10, [.null, .null, .null, .null, .null, .null, .null, .int 0, .int 0])) ∧ Mx (a + 1) = some (.inr (6, [.null, .null, .null, .int 0, .int 0, .int 0])) ∧ qFr (qGe a) M0 Mx := ⟨_, hI, (qUp_ne (by omega)).trans hMa, qUp_at _ _ _, hS.tr (qFr.up (k := 1) (by decide)) (fun q hq => by omega)⟩
  have hxo := hx0
  refine lv_dup hx hb dX10_init_8 rfl ?_
  refine q_go (q_runI (As := []) (rest := [.ref (a + 1), .ref a]) hx hb hml hown hg (c_X5_init l D cs hxo) v_X5_init wl_X10_9 rfl rfl ⟨Nat.le_of_ble_eq_true rfl, Nat.le_of_ble_eq_true rfl⟩ hI hK hl.1 rfl rfl (Nat.le_of_ble_eq_true rfl) dX10_init_9 ⟨Nat.le_of_ble_eq_true rfl, Nat.le_of_ble_eq_true rfl⟩) hI (fun r M N1 H locs hp hI => ?_)
  obtain ⟨rfl, ⟨hxn, hF⟩, rfl⟩ := hp
  replace hMa := (hF _ (by omega)).trans hMa
  replace hS := hS.tr hF (fun q hq => by omega)
  have hq1 : qLQ cs M (a + 1) qQ0 := hxn
  refine q_putF (v := .ref (a + 1)) hx hb hg in_X10 tyX10_ok nmX10 hown hK hI hMa rfl 0 (by decide) (hg _ wf_X10_10) (fun _ h9 => h9) rfl hnm rfl rfl rfl (Nat.le_of_ble_eq_true rfl) dX10_init_12 (fun H locs hI => ?_)
  obtain ⟨M, hI, hMa, hq1, hS⟩ : ∃ Mx : qM, qI D M0 s.heap Mx (a + 14) H locs ∧ Mx a = some (.inr (10, [.ref (a + 1), .null, .null, .null, .null, .null, .null, .int 0, .int 0])) ∧ qLQ cs Mx (a + 1) qQ0 ∧ qFr (qGe a) M0 Mx := ⟨_, hI, qUp_at _ _ _, hq1.same (fun q h1 h2 => qUp_ne (by omega)), hS.tr (qFr.up (k := 1) (by decide)) (fun q hq => by omega)⟩
  refine lv_aload_n hx hb dX10_init_15 rfl (lv_at hl 0 rfl) ?_
  refine q_new hx hb 6 hg in_X5 tyX5_ok hown wc_X10_7 wn_X5 wi_X5 hK hI rfl [.null, .null, .null, .int 0, .int 0, .int 0] (fun j hj => by rcases (show j = 0 ∨ j = 1 ∨ j = 2 ∨ j = 3 ∨ j = 4 ∨ j = 5 by omega) with rfl | rfl | rfl | rfl | rfl | rfl <;> rfl) (Nat.le_of_ble_eq_true rfl) (Nat.le_of_ble_eq_true rfl) dX10_init_16 (fun H hI => ?_)
  obtain ⟨M, hI, hMa, hq1, hx0, hS⟩ : ∃ Mx : qM, qI D M0 s.heap Mx (a + 15) H locs ∧ Mx a = some (.inr (10, [.ref (a + 1), .null, .null, .null, .null, .null, .null, .int 0, .int 0])) ∧ qLQ cs Mx (a + 1) qQ0 ∧ Mx (a + 14) = some (.inr (6, [.null, .null, .null, .int 0, .int 0, .int 0])) ∧ qFr (qGe a) M0 Mx := ⟨_, hI, (qUp_ne (by omega)).trans hMa, hq1.same (fun q h1 h2 => qUp_ne (by omega)), qUp_at _ _ _, hS.tr (qFr.up (k := 1) (by decide)) (fun q hq => by omega)⟩
  have hxo := hx0
  refine lv_dup hx hb dX10_init_19 rfl ?_
  refine q_go (q_runI (As := []) (rest := [.ref (a + 14), .ref a]) hx hb hml hown hg (c_X5_init l D cs hxo) v_X5_init wl_X10_9 rfl rfl ⟨Nat.le_of_ble_eq_true rfl, Nat.le_of_ble_eq_true rfl⟩ hI hK hl.1 rfl rfl (Nat.le_of_ble_eq_true rfl) dX10_init_20 ⟨Nat.le_of_ble_eq_true rfl, Nat.le_of_ble_eq_true rfl⟩) hI (fun r M N1 H locs hp hI => ?_)
  obtain ⟨rfl, ⟨hxn, hF⟩, rfl⟩ := hp
  replace hMa := (hF _ (by omega)).trans hMa
  replace hq1 := hq1.same (fun q h1 h2 => hF q (by omega))
  replace hS := hS.tr hF (fun q hq => by omega)
  have hq14 : qLQ cs M (a + 14) qQ0 := hxn
  refine q_putF (v := .ref (a + 14)) hx hb hg in_X10 tyX10_ok nmX10 hown hK hI hMa rfl 1 (by decide) (hg _ wf_X10_16) (fun _ h9 => h9) rfl hnm rfl rfl rfl (Nat.le_of_ble_eq_true rfl) dX10_init_23 (fun H locs hI => ?_)
  obtain ⟨M, hI, hMa, hq1, hq14, hS⟩ : ∃ Mx : qM, qI D M0 s.heap Mx (a + 27) H locs ∧ Mx a = some (.inr (10, [.ref (a + 1), .ref (a + 14), .null, .null, .null, .null, .null, .int 0, .int 0])) ∧ qLQ cs Mx (a + 1) qQ0 ∧ qLQ cs Mx (a + 14) qQ0 ∧ qFr (qGe a) M0 Mx := ⟨_, hI, qUp_at _ _ _, hq1.same (fun q h1 h2 => qUp_ne (by omega)), hq14.same (fun q h1 h2 => qUp_ne (by omega)), hS.tr (qFr.up (k := 1) (by decide)) (fun q hq => by omega)⟩
  refine lv_aload_n hx hb dX10_init_26 rfl (lv_at hl 0 rfl) ?_
  refine q_new hx hb 6 hg in_X5 tyX5_ok hown wc_X10_7 wn_X5 wi_X5 hK hI rfl [.null, .null, .null, .int 0, .int 0, .int 0] (fun j hj => by rcases (show j = 0 ∨ j = 1 ∨ j = 2 ∨ j = 3 ∨ j = 4 ∨ j = 5 by omega) with rfl | rfl | rfl | rfl | rfl | rfl <;> rfl) (Nat.le_of_ble_eq_true rfl) (Nat.le_of_ble_eq_true rfl) dX10_init_27 (fun H hI => ?_)
  obtain ⟨M, hI, hMa, hq1, hq14, hx0, hS⟩ : ∃ Mx : qM, qI D M0 s.heap Mx (a + 28) H locs ∧ Mx a = some (.inr (10, [.ref (a + 1), .ref (a + 14), .null, .null, .null, .null, .null, .int 0, .int 0])) ∧ qLQ cs Mx (a + 1) qQ0 ∧ qLQ cs Mx (a + 14) qQ0 ∧ Mx (a + 27) = some (.inr (6, [.null, .null, .null, .int 0, .int 0, .int 0])) ∧ qFr (qGe a) M0 Mx := ⟨_, hI, (qUp_ne (by omega)).trans hMa, hq1.same (fun q h1 h2 => qUp_ne (by omega)), hq14.same (fun q h1 h2 => qUp_ne (by omega)), qUp_at _ _ _, hS.tr (qFr.up (k := 1) (by decide)) (fun q hq => by omega)⟩
  have hxo := hx0
  refine lv_dup hx hb dX10_init_30 rfl ?_
  refine q_go (q_runI (As := []) (rest := [.ref (a + 27), .ref a]) hx hb hml hown hg (c_X5_init l D cs hxo) v_X5_init wl_X10_9 rfl rfl ⟨Nat.le_of_ble_eq_true rfl, Nat.le_of_ble_eq_true rfl⟩ hI hK hl.1 rfl rfl (Nat.le_of_ble_eq_true rfl) dX10_init_31 ⟨Nat.le_of_ble_eq_true rfl, Nat.le_of_ble_eq_true rfl⟩) hI (fun r M N1 H locs hp hI => ?_)
  obtain ⟨rfl, ⟨hxn, hF⟩, rfl⟩ := hp
  replace hMa := (hF _ (by omega)).trans hMa
  replace hq1 := hq1.same (fun q h1 h2 => hF q (by omega))
  replace hq14 := hq14.same (fun q h1 h2 => hF q (by omega))
  replace hS := hS.tr hF (fun q hq => by omega)
  have hq27 : qLQ cs M (a + 27) qQ0 := hxn
  refine q_putF (v := .ref (a + 27)) hx hb hg in_X10 tyX10_ok nmX10 hown hK hI hMa rfl 2 (by decide) (hg _ wf_X10_19) (fun _ h9 => h9) rfl hnm rfl rfl rfl (Nat.le_of_ble_eq_true rfl) dX10_init_34 (fun H locs hI => ?_)
  obtain ⟨M, hI, hMa, hq1, hq14, hq27, hS⟩ : ∃ Mx : qM, qI D M0 s.heap Mx (a + 40) H locs ∧ Mx a = some (.inr (10, [.ref (a + 1), .ref (a + 14), .ref (a + 27), .null, .null, .null, .null, .int 0, .int 0])) ∧ qLQ cs Mx (a + 1) qQ0 ∧ qLQ cs Mx (a + 14) qQ0 ∧ qLQ cs Mx (a + 27) qQ0 ∧ qFr (qGe a) M0 Mx := ⟨_, hI, qUp_at _ _ _, hq1.same (fun q h1 h2 => qUp_ne (by omega)), hq14.same (fun q h1 h2 => qUp_ne (by omega)), hq27.same (fun q h1 h2 => qUp_ne (by omega)), hS.tr (qFr.up (k := 1) (by decide)) (fun q hq => by omega)⟩
  refine lv_aload_n hx hb dX10_init_37 rfl (lv_at hl 0 rfl) ?_
  refine q_new hx hb 3 hg in_X2 tyX2_ok hown wc_X10_22 wn_X2 wi_X2 hK hI rfl [.null, .int 0, .int 0] (fun j hj => by rcases (show j = 0 ∨ j = 1 ∨ j = 2 by omega) with rfl | rfl | rfl <;> rfl) (Nat.le_of_ble_eq_true rfl) (Nat.le_of_ble_eq_true rfl) dX10_init_38 (fun H hI => ?_)
  obtain ⟨M, hI, hMa, hq1, hq14, hq27, hx0, hS⟩ : ∃ Mx : qM, qI D M0 s.heap Mx (a + 41) H locs ∧ Mx a = some (.inr (10, [.ref (a + 1), .ref (a + 14), .ref (a + 27), .null, .null, .null, .null, .int 0, .int 0])) ∧ qLQ cs Mx (a + 1) qQ0 ∧ qLQ cs Mx (a + 14) qQ0 ∧ qLQ cs Mx (a + 27) qQ0 ∧ Mx (a + 40) = some (.inr (3, [.null, .int 0, .int 0])) ∧ qFr (qGe a) M0 Mx := ⟨_, hI, (qUp_ne (by omega)).trans hMa, hq1.same (fun q h1 h2 => qUp_ne (by omega)), hq14.same (fun q h1 h2 => qUp_ne (by omega)), hq27.same (fun q h1 h2 => qUp_ne (by omega)), qUp_at _ _ _, hS.tr (qFr.up (k := 1) (by decide)) (fun q hq => by omega)⟩
  have hxo := hx0
  refine lv_dup hx hb dX10_init_41 rfl ?_
  refine q_go (q_runI (As := []) (rest := [.ref (a + 40), .ref a]) hx hb hml hown hg (c_X2_init l D cs hxo) v_X2_init wl_X10_24 rfl rfl ⟨Nat.le_of_ble_eq_true rfl, Nat.le_of_ble_eq_true rfl⟩ hI hK hl.1 rfl rfl (Nat.le_of_ble_eq_true rfl) dX10_init_42 ⟨Nat.le_of_ble_eq_true rfl, Nat.le_of_ble_eq_true rfl⟩) hI (fun r M N1 H locs hp hI => ?_)
  obtain ⟨rfl, ⟨hxn, hF⟩, rfl⟩ := hp
  replace hMa := (hF _ (by omega)).trans hMa
  replace hq1 := hq1.same (fun q h1 h2 => hF q (by omega))
  replace hq14 := hq14.same (fun q h1 h2 => hF q (by omega))
  replace hq27 := hq27.same (fun q h1 h2 => hF q (by omega))
  replace hS := hS.tr hF (fun q hq => by omega)
  have hq40 : qLH cs M (a + 40) qH0 := hxn
  refine q_putF (v := .ref (a + 40)) hx hb hg in_X10 tyX10_ok nmX10 hown hK hI hMa rfl 3 (by decide) (hg _ wf_X10_25) (fun _ h9 => h9) rfl hnm rfl rfl rfl (Nat.le_of_ble_eq_true rfl) dX10_init_45 (fun H locs hI => ?_)
  obtain ⟨M, hI, hMa, hq1, hq14, hq27, hq40, hS⟩ : ∃ Mx : qM, qI D M0 s.heap Mx (a + 159) H locs ∧ Mx a = some (.inr (10, [.ref (a + 1), .ref (a + 14), .ref (a + 27), .ref (a + 40), .null, .null, .null, .int 0, .int 0])) ∧ qLQ cs Mx (a + 1) qQ0 ∧ qLQ cs Mx (a + 14) qQ0 ∧ qLQ cs Mx (a + 27) qQ0 ∧ qLH cs Mx (a + 40) qH0 ∧ qFr (qGe a) M0 Mx := ⟨_, hI, qUp_at _ _ _, hq1.same (fun q h1 h2 => qUp_ne (by omega)), hq14.same (fun q h1 h2 => qUp_ne (by omega)), hq27.same (fun q h1 h2 => qUp_ne (by omega)), hq40.same (fun q h1 h2 => qUp_ne (by omega)), hS.tr (qFr.up (k := 1) (by decide)) (fun q hq => by omega)⟩
  refine lv_aload_n hx hb dX10_init_48 rfl (lv_at hl 0 rfl) ?_
  refine q_new hx hb 4 hg in_X3 tyX3_ok hown wc_X10_29 wn_X3 wi_X3 hK hI rfl [.null, .null, .null, .null, .int 0, .int 0, .int 0] (fun j hj => by rcases (show j = 0 ∨ j = 1 ∨ j = 2 ∨ j = 3 ∨ j = 4 ∨ j = 5 ∨ j = 6 by omega) with rfl | rfl | rfl | rfl | rfl | rfl | rfl <;> rfl) (Nat.le_of_ble_eq_true rfl) (Nat.le_of_ble_eq_true rfl) dX10_init_49 (fun H hI => ?_)
  obtain ⟨M, hI, hMa, hq1, hq14, hq27, hq40, hx0, hS⟩ : ∃ Mx : qM, qI D M0 s.heap Mx (a + 160) H locs ∧ Mx a = some (.inr (10, [.ref (a + 1), .ref (a + 14), .ref (a + 27), .ref (a + 40), .null, .null, .null, .int 0, .int 0])) ∧ qLQ cs Mx (a + 1) qQ0 ∧ qLQ cs Mx (a + 14) qQ0 ∧ qLQ cs Mx (a + 27) qQ0 ∧ qLH cs Mx (a + 40) qH0 ∧ Mx (a + 159) = some (.inr (4, [.null, .null, .null, .null, .int 0, .int 0, .int 0])) ∧ qFr (qGe a) M0 Mx := ⟨_, hI, (qUp_ne (by omega)).trans hMa, hq1.same (fun q h1 h2 => qUp_ne (by omega)), hq14.same (fun q h1 h2 => qUp_ne (by omega)), hq27.same (fun q h1 h2 => qUp_ne (by omega)), hq40.same (fun q h1 h2 => qUp_ne (by omega)), qUp_at _ _ _, hS.tr (qFr.up (k := 1) (by decide)) (fun q hq => by omega)⟩
  have hxo := hx0
  refine lv_dup hx hb dX10_init_52 rfl ?_
  refine q_go (q_runIN (As := []) (rest := [.ref (a + 159), .ref a]) hx hb hml hown hg (c_X3_init l D cs hxo) v_X3_init (hK.2 _ (List.mem_of_getElem? (i := 19) rfl)) rfl rfl ⟨Nat.le_of_ble_eq_true rfl, Nat.le_of_ble_eq_true rfl⟩ hI hK hl.1 rfl rfl (Nat.le_of_ble_eq_true rfl) dX10_init_53 ⟨Nat.le_of_ble_eq_true rfl, Nat.le_of_ble_eq_true rfl⟩) hI (fun r M N1 H locs hp hI => ?_)
  obtain ⟨rfl, ⟨hxn, hF⟩, rfl⟩ := hp
  replace hMa := (hF _ (by omega)).trans hMa
  replace hq1 := hq1.same (fun q h1 h2 => hF q (by omega))
  replace hq14 := hq14.same (fun q h1 h2 => hF q (by omega))
  replace hq27 := hq27.same (fun q h1 h2 => hF q (by omega))
  replace hq40 := hq40.same (fun q h1 h2 => hF q (by omega))
  replace hS := hS.tr hF (fun q hq => by omega)
  have hq159 : qLI cs M (a + 159) qI0 := hxn
  refine q_putF (v := .ref (a + 159)) hx hb hg in_X10 tyX10_ok nmX10 hown hK hI hMa rfl 4 (by decide) (hg _ wf_X10_32) (fun _ h9 => h9) rfl hnm rfl rfl rfl (Nat.le_of_ble_eq_true rfl) dX10_init_56 (fun H locs hI => ?_)
  obtain ⟨M, hI, hMa, hq1, hq14, hq27, hq40, hq159, hS⟩ : ∃ Mx : qM, qI D M0 s.heap Mx (a + 164) H locs ∧ Mx a = some (.inr (10, [.ref (a + 1), .ref (a + 14), .ref (a + 27), .ref (a + 40), .ref (a + 159), .null, .null, .int 0, .int 0])) ∧ qLQ cs Mx (a + 1) qQ0 ∧ qLQ cs Mx (a + 14) qQ0 ∧ qLQ cs Mx (a + 27) qQ0 ∧ qLH cs Mx (a + 40) qH0 ∧ qLI cs Mx (a + 159) qI0 ∧ qFr (qGe a) M0 Mx := ⟨_, hI, qUp_at _ _ _, hq1.same (fun q h1 h2 => qUp_ne (by omega)), hq14.same (fun q h1 h2 => qUp_ne (by omega)), hq27.same (fun q h1 h2 => qUp_ne (by omega)), hq40.same (fun q h1 h2 => qUp_ne (by omega)), hq159.same (fun q h1 h2 => qUp_ne (by omega)), hS.tr (qFr.up (k := 1) (by decide)) (fun q hq => by omega)⟩
  refine lv_aload_n hx hb dX10_init_59 rfl (lv_at hl 0 rfl) ?_
  refine q_new hx hb 5 hg in_X4 tyX4_ok hown wc_X10_36 wn_X4 wi_X4 hK hI rfl [.null, .int 0] (fun j hj => by rcases (show j = 0 ∨ j = 1 by omega) with rfl | rfl <;> rfl) (Nat.le_of_ble_eq_true rfl) (Nat.le_of_ble_eq_true rfl) dX10_init_60 (fun H hI => ?_)
  obtain ⟨M, hI, hMa, hq1, hq14, hq27, hq40, hq159, hx0, hS⟩ : ∃ Mx : qM, qI D M0 s.heap Mx (a + 165) H locs ∧ Mx a = some (.inr (10, [.ref (a + 1), .ref (a + 14), .ref (a + 27), .ref (a + 40), .ref (a + 159), .null, .null, .int 0, .int 0])) ∧ qLQ cs Mx (a + 1) qQ0 ∧ qLQ cs Mx (a + 14) qQ0 ∧ qLQ cs Mx (a + 27) qQ0 ∧ qLH cs Mx (a + 40) qH0 ∧ qLI cs Mx (a + 159) qI0 ∧ Mx (a + 164) = some (.inr (5, [.null, .int 0])) ∧ qFr (qGe a) M0 Mx := ⟨_, hI, (qUp_ne (by omega)).trans hMa, hq1.same (fun q h1 h2 => qUp_ne (by omega)), hq14.same (fun q h1 h2 => qUp_ne (by omega)), hq27.same (fun q h1 h2 => qUp_ne (by omega)), hq40.same (fun q h1 h2 => qUp_ne (by omega)), hq159.same (fun q h1 h2 => qUp_ne (by omega)), qUp_at _ _ _, hS.tr (qFr.up (k := 1) (by decide)) (fun q hq => by omega)⟩
  have hxo := hx0
  refine lv_dup hx hb dX10_init_63 rfl ?_
  refine q_go (q_runIN (As := []) (rest := [.ref (a + 164), .ref a]) hx hb hml hown hg (c_X4_init l D cs hxo) v_X4_init (hK.2 _ (List.mem_of_getElem? (i := 25) rfl)) rfl rfl ⟨Nat.le_of_ble_eq_true rfl, Nat.le_of_ble_eq_true rfl⟩ hI hK hl.1 rfl rfl (Nat.le_of_ble_eq_true rfl) dX10_init_64 ⟨Nat.le_of_ble_eq_true rfl, Nat.le_of_ble_eq_true rfl⟩) hI (fun r M N1 H locs hp hI => ?_)
  obtain ⟨rfl, ⟨hxn, hF⟩, rfl⟩ := hp
  replace hMa := (hF _ (by omega)).trans hMa
  replace hq1 := hq1.same (fun q h1 h2 => hF q (by omega))
  replace hq14 := hq14.same (fun q h1 h2 => hF q (by omega))
  replace hq27 := hq27.same (fun q h1 h2 => hF q (by omega))
  replace hq40 := hq40.same (fun q h1 h2 => hF q (by omega))
  replace hq159 := hq159.same (fun q h1 h2 => hF q (by omega))
  replace hS := hS.tr hF (fun q hq => by omega)
  have hq164 : qLN cs M (a + 164) (List.replicate 54 0, 0) := hxn
  refine q_putF (v := .ref (a + 164)) hx hb hg in_X10 tyX10_ok nmX10 hown hK hI hMa rfl 5 (by decide) (hg _ wf_X10_39) (fun _ h9 => h9) rfl hnm rfl rfl rfl (Nat.le_of_ble_eq_true rfl) dX10_init_67 (fun H locs hI => ?_)
  obtain ⟨M, hI, hMa, hq1, hq14, hq27, hq40, hq159, hq164, hS⟩ : ∃ Mx : qM, qI D M0 s.heap Mx (a + 166) H locs ∧ Mx a = some (.inr (10, [.ref (a + 1), .ref (a + 14), .ref (a + 27), .ref (a + 40), .ref (a + 159), .ref (a + 164), .null, .int 0, .int 0])) ∧ qLQ cs Mx (a + 1) qQ0 ∧ qLQ cs Mx (a + 14) qQ0 ∧ qLQ cs Mx (a + 27) qQ0 ∧ qLH cs Mx (a + 40) qH0 ∧ qLI cs Mx (a + 159) qI0 ∧ qLN cs Mx (a + 164) (List.replicate 54 0, 0) ∧ qFr (qGe a) M0 Mx := ⟨_, hI, qUp_at _ _ _, hq1.same (fun q h1 h2 => qUp_ne (by omega)), hq14.same (fun q h1 h2 => qUp_ne (by omega)), hq27.same (fun q h1 h2 => qUp_ne (by omega)), hq40.same (fun q h1 h2 => qUp_ne (by omega)), hq159.same (fun q h1 h2 => qUp_ne (by omega)), hq164.same (fun q h1 h2 => qUp_ne (by omega)), hS.tr (qFr.up (k := 1) (by decide)) (fun q hq => by omega)⟩
  refine lv_aload_n hx hb dX10_init_70 rfl (lv_at hl 0 rfl) ?_
  refine q_new hx hb 7 hg in_X6 tyX6_ok hown wc_X10_43 wn_X6 wi_X6 hK hI rfl [.int 0, .int 0, .int 0, .int 0] (fun j hj => by rcases (show j = 0 ∨ j = 1 ∨ j = 2 ∨ j = 3 by omega) with rfl | rfl | rfl | rfl <;> rfl) (Nat.le_of_ble_eq_true rfl) (Nat.le_of_ble_eq_true rfl) dX10_init_71 (fun H hI => ?_)
  obtain ⟨M, hI, hMa, hq1, hq14, hq27, hq40, hq159, hq164, hx0, hS⟩ : ∃ Mx : qM, qI D M0 s.heap Mx (a + 167) H locs ∧ Mx a = some (.inr (10, [.ref (a + 1), .ref (a + 14), .ref (a + 27), .ref (a + 40), .ref (a + 159), .ref (a + 164), .null, .int 0, .int 0])) ∧ qLQ cs Mx (a + 1) qQ0 ∧ qLQ cs Mx (a + 14) qQ0 ∧ qLQ cs Mx (a + 27) qQ0 ∧ qLH cs Mx (a + 40) qH0 ∧ qLI cs Mx (a + 159) qI0 ∧ qLN cs Mx (a + 164) (List.replicate 54 0, 0) ∧ Mx (a + 166) = some (.inr (7, [.int 0, .int 0, .int 0, .int 0])) ∧ qFr (qGe a) M0 Mx := ⟨_, hI, (qUp_ne (by omega)).trans hMa, hq1.same (fun q h1 h2 => qUp_ne (by omega)), hq14.same (fun q h1 h2 => qUp_ne (by omega)), hq27.same (fun q h1 h2 => qUp_ne (by omega)), hq40.same (fun q h1 h2 => qUp_ne (by omega)), hq159.same (fun q h1 h2 => qUp_ne (by omega)), hq164.same (fun q h1 h2 => qUp_ne (by omega)), qUp_at _ _ _, hS.tr (qFr.up (k := 1) (by decide)) (fun q hq => by omega)⟩
  have hxo := hx0
  refine lv_dup hx hb dX10_init_74 rfl ?_
  refine q_go (q_runIN (As := []) (rest := [.ref (a + 166), .ref a]) hx hb hml hown hg (c_X6_init l D cs hxo) v_X6_init (hK.2 _ (List.mem_of_getElem? (i := 27) rfl)) rfl rfl ⟨Nat.le_of_ble_eq_true rfl, Nat.le_of_ble_eq_true rfl⟩ hI hK hl.1 rfl rfl (Nat.le_of_ble_eq_true rfl) dX10_init_75 ⟨Nat.le_of_ble_eq_true rfl, Nat.le_of_ble_eq_true rfl⟩) hI (fun r M N1 H locs hp hI => ?_)
  obtain ⟨rfl, ⟨hxn, hF⟩, rfl⟩ := hp
  replace hMa := (hF _ (by omega)).trans hMa
  replace hq1 := hq1.same (fun q h1 h2 => hF q (by omega))
  replace hq14 := hq14.same (fun q h1 h2 => hF q (by omega))
  replace hq27 := hq27.same (fun q h1 h2 => hF q (by omega))
  replace hq40 := hq40.same (fun q h1 h2 => hF q (by omega))
  replace hq159 := hq159.same (fun q h1 h2 => hF q (by omega))
  replace hq164 := hq164.same (fun q h1 h2 => hF q (by omega))
  replace hS := hS.tr hF (fun q hq => by omega)
  have hq166 : qLR cs M (a + 166) (0, 0, 0, 0) := hxn
  refine q_putF (v := .ref (a + 166)) hx hb hg in_X10 tyX10_ok nmX10 hown hK hI hMa rfl 6 (by decide) (hg _ wf_X10_46) (fun _ h9 => h9) rfl hnm rfl rfl rfl (Nat.le_of_ble_eq_true rfl) dX10_init_78 (fun H locs hI => ?_)
  obtain ⟨M, hI, hMa, hq1, hq14, hq27, hq40, hq159, hq164, hq166, hS⟩ : ∃ Mx : qM, qI D M0 s.heap Mx (a + 167) H locs ∧ Mx a = some (.inr (10, [.ref (a + 1), .ref (a + 14), .ref (a + 27), .ref (a + 40), .ref (a + 159), .ref (a + 164), .ref (a + 166), .int 0, .int 0])) ∧ qLQ cs Mx (a + 1) qQ0 ∧ qLQ cs Mx (a + 14) qQ0 ∧ qLQ cs Mx (a + 27) qQ0 ∧ qLH cs Mx (a + 40) qH0 ∧ qLI cs Mx (a + 159) qI0 ∧ qLN cs Mx (a + 164) (List.replicate 54 0, 0) ∧ qLR cs Mx (a + 166) (0, 0, 0, 0) ∧ qFr (qGe a) M0 Mx := ⟨_, hI, qUp_at _ _ _, hq1.same (fun q h1 h2 => qUp_ne (by omega)), hq14.same (fun q h1 h2 => qUp_ne (by omega)), hq27.same (fun q h1 h2 => qUp_ne (by omega)), hq40.same (fun q h1 h2 => qUp_ne (by omega)), hq159.same (fun q h1 h2 => qUp_ne (by omega)), hq164.same (fun q h1 h2 => qUp_ne (by omega)), hq166.same (fun q h1 h2 => qUp_ne (by omega)), hS.tr (qFr.up (k := 1) (by decide)) (fun q hq => by omega)⟩
  refine lv_aload_n hx hb dX10_init_81 rfl (lv_at hl 0 rfl) ?_
  refine lv_bipush (v := (-4)) hx hb dX10_init_82 (by decide) ?_
  refine q_put (v := .int (-4)) hx hb hg in_X10 tyX10_ok nmX10 hown hK hI hMa rfl 7 (by decide) (hg _ wf_X10_50) (fun _ h9 => h9) rfl rfl rfl (Nat.le_of_ble_eq_true rfl) dX10_init_84 (fun H locs hI => ?_)
  obtain ⟨M, hI, hMa, hq1, hq14, hq27, hq40, hq159, hq164, hq166, hS⟩ : ∃ Mx : qM, qI D M0 s.heap Mx (a + 167) H locs ∧ Mx a = some (.inr (10, [.ref (a + 1), .ref (a + 14), .ref (a + 27), .ref (a + 40), .ref (a + 159), .ref (a + 164), .ref (a + 166), .int (-4), .int 0])) ∧ qLQ cs Mx (a + 1) qQ0 ∧ qLQ cs Mx (a + 14) qQ0 ∧ qLQ cs Mx (a + 27) qQ0 ∧ qLH cs Mx (a + 40) qH0 ∧ qLI cs Mx (a + 159) qI0 ∧ qLN cs Mx (a + 164) (List.replicate 54 0, 0) ∧ qLR cs Mx (a + 166) (0, 0, 0, 0) ∧ qFr (qGe a) M0 Mx := ⟨_, hI, qUp_at _ _ _, hq1.same (fun q h1 h2 => qUp_ne (by omega)), hq14.same (fun q h1 h2 => qUp_ne (by omega)), hq27.same (fun q h1 h2 => qUp_ne (by omega)), hq40.same (fun q h1 h2 => qUp_ne (by omega)), hq159.same (fun q h1 h2 => qUp_ne (by omega)), hq164.same (fun q h1 h2 => qUp_ne (by omega)), hq166.same (fun q h1 h2 => qUp_ne (by omega)), hS.tr (qFr.up (k := 1) (by decide)) (fun q hq => by omega)⟩
  refine lv_aload_n hx hb dX10_init_87 rfl (lv_at hl 0 rfl) ?_
  refine lv_iconst (v := 0) hx hb dX10_init_88 (by decide) ?_
  refine q_put (v := .int 0) hx hb hg in_X10 tyX10_ok nmX10 hown hK hI hMa rfl 8 (by decide) (hg _ wf_X10_54) (fun _ h9 => h9) rfl rfl rfl (Nat.le_of_ble_eq_true rfl) dX10_init_89 (fun H locs hI => ?_)
  obtain ⟨M, hI, hMa, hq1, hq14, hq27, hq40, hq159, hq164, hq166, hS⟩ : ∃ Mx : qM, qI D M0 s.heap Mx (a + 167) H locs ∧ Mx a = some (.inr (10, [.ref (a + 1), .ref (a + 14), .ref (a + 27), .ref (a + 40), .ref (a + 159), .ref (a + 164), .ref (a + 166), .int (-4), .int 0])) ∧ qLQ cs Mx (a + 1) qQ0 ∧ qLQ cs Mx (a + 14) qQ0 ∧ qLQ cs Mx (a + 27) qQ0 ∧ qLH cs Mx (a + 40) qH0 ∧ qLI cs Mx (a + 159) qI0 ∧ qLN cs Mx (a + 164) (List.replicate 54 0, 0) ∧ qLR cs Mx (a + 166) (0, 0, 0, 0) ∧ qFr (qGe a) M0 Mx := ⟨_, hI, qUp_at _ _ _, hq1.same (fun q h1 h2 => qUp_ne (by omega)), hq14.same (fun q h1 h2 => qUp_ne (by omega)), hq27.same (fun q h1 h2 => qUp_ne (by omega)), hq40.same (fun q h1 h2 => qUp_ne (by omega)), hq159.same (fun q h1 h2 => qUp_ne (by omega)), hq164.same (fun q h1 h2 => qUp_ne (by omega)), hq166.same (fun q h1 h2 => qUp_ne (by omega)), hS.tr (qFr.up (k := 1) (by decide)) (fun q hq => by omega)⟩
  exact q_vret (st := []) hx hb hret hlk hN hI ⟨rfl, ⟨⟨hMa, hq1, hq14, hq27, hq40, hq159, hq164, hq166⟩, hS⟩, rfl⟩ dX10_init_92
