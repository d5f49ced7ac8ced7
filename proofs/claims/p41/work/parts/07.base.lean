/-! the four methods that touch rows -/
theorem rowAt_in {L : List Int32} {i : Int32} (h0 : ¬ i < 0) (h1 : ¬ Int32.ofNat L.length ≤ i) : rowAt L i = L.getD i.toNatClampNeg 0 := by
  rw [rowAt, if_pos ⟨q_nlt h0, q_nle h1⟩]
theorem rowAt_neg {L : List Int32} {i : Int32} (h0 : i < 0) : rowAt L i = -1 := by
  rw [rowAt, if_neg]
  rintro ⟨h, -⟩
  rw [Int32.lt_iff_toInt_lt] at h0
  rw [Int32.le_iff_toInt_le] at h
  omega
theorem rowAt_out {L : List Int32} {i : Int32} (h1 : Int32.ofNat L.length ≤ i) : rowAt L i = -1 := by
  rw [rowAt, if_neg]
  rintro ⟨-, h⟩
  rw [Int32.lt_iff_toInt_lt] at h
  rw [Int32.le_iff_toInt_le] at h1
  omega
theorem rowPut_in {L : List Int32} {i x : Int32} (h0 : ¬ i < 0) (h1 : ¬ Int32.ofNat L.length ≤ i) : rowPut L i x = L.set i.toNatClampNeg x := by
  rw [rowPut, if_pos ⟨q_nlt h0, q_nle h1⟩]
theorem rowPut_neg {L : List Int32} {i x : Int32} (h0 : i < 0) : rowPut L i x = L := by
  rw [rowPut, if_neg]
  rintro ⟨h, -⟩
  rw [Int32.lt_iff_toInt_lt] at h0
  rw [Int32.le_iff_toInt_le] at h
  omega
theorem rowPut_out {L : List Int32} {i x : Int32} (h1 : Int32.ofNat L.length ≤ i) : rowPut L i x = L := by
  rw [rowPut, if_neg]
  rintro ⟨-, h⟩
  rw [Int32.lt_iff_toInt_lt] at h
  rw [Int32.le_iff_toInt_le] at h1
  omega
theorem qRow.put {cs : qC} {M : qM} {r k : Nat} {L : List Int32} (h : qRow cs M r L k) {i : Nat} (x : Int32) (hi : i < L.length) : qRow cs (qUp M r (.inl (cs 0, L.length, .inl (upd (fun j => L.getD j 0) i x)))) r (L.set i x) k :=
  ⟨by rw [qUp_at, qrow_set _ x hi], by rw [List.length_set]; exact h.2.1, h.2.2⟩
theorem q_nIin {j k : Nat} (h : j < k) (hk : k < 2 ^ 31) : ¬ nI j < 0 ∧ ¬ Int32.ofNat k ≤ nI j :=
  ⟨nI_pos (by omega), nI_ge h hk⟩
theorem rowAt_nI {L : List Int32} {j : Nat} (h : j < L.length) (hk : L.length < 2 ^ 31) : rowAt L (nI j) = L.getD j 0 := by
  rw [rowAt_in (q_nIin h hk).1 (q_nIin h hk).2, nI_clamp (by omega)]
set_option maxHeartbeats 4000000 in
theorem c_X10_at (l : Launch) (D : va_G) (cs : qC) {M : qM} {N r k : Nat} {L : List Int32} (hr : qRow cs M r L k) (i : Int32) :
    qMet l D cs yX10_at (qws yX10_at cX10_at 2 (some .int)) { frames := 0, cells := 0, slots := 0, locals := 0 } M N [.ref r, .int i] (qRet M N (.int (rowAt L i))) 0 0 := by
  refine q_head (by decide) ?_ (Nat.le_of_ble_eq_true rfl)
  intro p e s m below meth c ls hx hb hret hlk hml hown hnm hg hK hN hI hl
  have hlt : L.length < 2 ^ 31 := by rw [hr.2.1]; exact hr.2.2
  have hl : lv_has ls 2 [(0, .ref r), (1, .int i)] := hl
  have hM := hr.1
  refine lv_aload_n hx hb dX10_at_0 rfl (lv_at hl 0 rfl) ?_
  refine lv_ifnull hx hb dX10_at_1 ?_
  refine lv_iload_n hx hb dX10_at_4 rfl (lv_at hl 1 rfl) ?_
  refine lv_if_lt (tgt := 20) hx hb dX10_at_5 (by decide) (fun c1 => ?_) (fun c1 => ?_)
  · refine lv_iconst (v := -1) hx hb dX10_at_20 (by decide) ?_
    exact q_iret hx hb hret hlk hN hI ⟨by rw [rowAt_neg c1], rfl, rfl⟩ dX10_at_21
  · refine lv_iload_n hx hb dX10_at_8 rfl (lv_at hl 1 rfl) ?_
    refine lv_aload_n hx hb dX10_at_9 rfl (lv_at hl 0 rfl) ?_
    refine q_alen hx hb hK hI 0 rfl hM rfl dX10_at_10 ?_
    refine lv_icmp_ge (tgt := 20) hx hb dX10_at_11 (by decide) (fun c2 => ?_) (fun c2 => ?_)
    · refine lv_iconst (v := -1) hx hb dX10_at_20 (by decide) ?_
      exact q_iret hx hb hret hlk hN hI ⟨by rw [rowAt_out c2], rfl, rfl⟩ dX10_at_21
    · refine lv_aload_n hx hb dX10_at_14 rfl (lv_at hl 0 rfl) ?_
      refine lv_iload_n hx hb dX10_at_15 rfl (lv_at hl 1 rfl) ?_
      refine q_iald hx hb hK hI hM (q_vpin hlt (q_nlt c1) (q_nle c2)) dX10_at_16 ?_
      refine lv_goto (tgt := 21) hx hb dX10_at_17 (by decide) ?_
      exact q_iret hx hb hret hlk hN hI ⟨by rw [rowAt_in c1 c2], rfl, rfl⟩ dX10_at_21
set_option maxHeartbeats 4000000 in
theorem c_X10_put (l : Launch) (D : va_G) (cs : qC) {M : qM} {N r k : Nat} {L : List Int32} (hr : qRow cs M r L k) (i x : Int32) :
    qMet l D cs yX10_put (qws yX10_put cX10_put 3 none) { frames := 0, cells := 0, slots := 0, locals := 0 } M N [.ref r, .int i, .int x] (qMod N none (fun M' => qRow cs M' r (rowPut L i x) k ∧ qFr (qIn r 1) M M')) 0 0 := by
  refine q_head (by decide) ?_ (Nat.le_of_ble_eq_true rfl)
  intro p e s m below meth c ls hx hb hret hlk hml hown hnm hg hK hN hI hl
  have hlt : L.length < 2 ^ 31 := by rw [hr.2.1]; exact hr.2.2
  have hl : lv_has ls 3 [(0, .ref r), (1, .int i), (2, .int x)] := hl
  have hM := hr.1
  refine lv_aload_n hx hb dX10_put_0 rfl (lv_at hl 0 rfl) ?_
  refine lv_ifnull hx hb dX10_put_1 ?_
  refine lv_iload_n hx hb dX10_put_4 rfl (lv_at hl 1 rfl) ?_
  refine lv_if_lt (tgt := 18) hx hb dX10_put_5 (by decide) (fun c1 => ?_) (fun c1 => ?_)
  · exact q_vret (st := []) hx hb hret hlk hN hI ⟨rfl, ⟨by rw [rowPut_neg c1]; exact hr, qFr.rf⟩, rfl⟩ dX10_put_18
  · refine lv_iload_n hx hb dX10_put_8 rfl (lv_at hl 1 rfl) ?_
    refine lv_aload_n hx hb dX10_put_9 rfl (lv_at hl 0 rfl) ?_
    refine q_alen hx hb hK hI 0 rfl hM rfl dX10_put_10 ?_
    refine lv_icmp_ge (tgt := 18) hx hb dX10_put_11 (by decide) (fun c2 => ?_) (fun c2 => ?_)
    · exact q_vret (st := []) hx hb hret hlk hN hI ⟨rfl, ⟨by rw [rowPut_out c2]; exact hr, qFr.rf⟩, rfl⟩ dX10_put_18
    · refine lv_aload_n hx hb dX10_put_14 rfl (lv_at hl 0 rfl) ?_
      refine lv_iload_n hx hb dX10_put_15 rfl (lv_at hl 1 rfl) ?_
      refine lv_iload_n hx hb dX10_put_16 rfl (lv_at hl 2 rfl) ?_
      refine q_iast hx hb hK hI hM (q_vpin hlt (q_nlt c1) (q_nle c2)) dX10_put_17 (fun H locs hI => ?_)
      exact q_vret (st := []) hx hb hret hlk hN hI ⟨rfl, ⟨by rw [rowPut_in c1 c2]; exact hr.put x (q_within hlt (q_nlt c1) (q_nle c2)), qFr.up (by decide)⟩, rfl⟩ dX10_put_18
theorem q_fillS {L : List Int32} {x : Int32} {j : Nat} (h : j < L.length) : (List.replicate j x ++ L.drop j).set j x = List.replicate (j + 1) x ++ L.drop (j + 1) := by
  rw [List.set_append_right _ _ (by simp)]
  simp only [List.length_replicate, Nat.sub_self]
  rw [List.drop_eq_getElem_cons h, List.set_cons_zero, List.replicate_succ', List.append_assoc]
  rfl
theorem q_copyS {L1 L2 : List Int32} {j : Nat} (h : j < L2.length) (he : L1.length = L2.length) : (L1.take j ++ L2.drop j).set j (L1.getD j 0) = L1.take (j + 1) ++ L2.drop (j + 1) := by
  have hj : (L1.take j).length = j := by rw [List.length_take]; omega
  rw [List.set_append_right _ _ (by omega), hj, Nat.sub_self, List.drop_eq_getElem_cons h, List.set_cons_zero]
  rw [List.take_succ_eq_append_getElem (by omega), List.append_assoc]
  have : L1.getD j 0 = L1[j] := by simp [List.getD, (by omega : j < L1.length)]
  rw [this]
  rfl
set_option maxHeartbeats 4000000 in
theorem c_X10_fill (l : Launch) (D : va_G) (cs : qC) {M : qM} {N r k : Nat} {L : List Int32} (hr : qRow cs M r L k) (x : Int32) :
    qMet l D cs yX10_fill (qws yX10_fill cX10_fill 3 none) { frames := 0, cells := 0, slots := 0, locals := 0 } M N [.ref r, .int x] (qMod N none (fun M' => qRow cs M' r (rowFill L x) k ∧ qFr (qIn r 1) M M')) 0 0 := by
  refine q_head (by decide) ?_ (Nat.le_of_ble_eq_true rfl)
  intro p e s m below meth c ls hx hb hret hlk hml hown hnm hg hK hN hI hl
  have hlt : L.length < 2 ^ 31 := by rw [hr.2.1]; exact hr.2.2
  have hl : lv_has ls 3 [(0, .ref r), (1, .int x)] := hl
  refine lv_iconst (v := nI 0) hx hb dX10_fill_0 (by decide) ?_
  refine lv_istore_n (lv' := [(2, .int (nI 0)), (0, .ref r), (1, .int x)]) hx hb dX10_fill_1 rfl hl (by decide) rfl (fun ls hl => ?_)
  have loop : ∀ (n j : Nat), n + j = L.length → ∀ (M1 : qM), qRow cs M1 r (List.replicate j x ++ L.drop j) k → qFr (qIn r 1) M M1 → ∀ (H : Heap) (locs : List Loc) (ls : Array Slot), qI D M s.heap M1 N H locs → lv_has ls 3 [(2, .int (nI j)), (0, .ref r), (1, .int x)] →
      W p l e { frames := 0, cells := 0, slots := 0, locals := 0 } s m [Value.ref r, Value.int x].toArray below meth c H locs 0 0 (MQ below (qQ D M N (qMod N none (fun M' => qRow cs M' r (rowFill L x) k ∧ qFr (qIn r 1) M M'))) [Value.ref r, Value.int x].toArray s 0 0 (qA M N)) (F0 m 2 ls []) := by
    intro n
    induction n with
    | zero =>
      intro j hj M1 hr1 hS H locs ls hI hl
      refine lv_aload_n hx hb dX10_fill_2 rfl (lv_at hl 1 rfl) ?_
      refine lv_ifnull hx hb dX10_fill_3 ?_
      refine lv_iload_n hx hb dX10_fill_6 rfl (lv_at hl 0 rfl) ?_
      refine lv_aload_n hx hb dX10_fill_7 rfl (lv_at hl 1 rfl) ?_
      refine q_alen hx hb hK hI 0 rfl hr1.1 rfl dX10_fill_8 ?_
      refine lv_icmp_ge (tgt := 22) hx hb dX10_fill_9 (by decide) (fun c2 => ?_) (fun c2 => ?_)
      · have e1 : List.replicate j x ++ L.drop j = rowFill L x := by
          rw [rowFill, show j = L.length by omega, List.drop_length, List.append_nil]
        exact q_vret (st := []) hx hb hret hlk hN hI ⟨rfl, ⟨by rw [← e1]; exact hr1, hS⟩, rfl⟩ dX10_fill_22
      · exact absurd (by show Int32.ofNat _ ≤ _; rw [hr1.2.1, ← hr.2.1]; exact nI_le (by omega) (by omega)) c2
    | succ n ih =>
      intro j hj M1 hr1 hS H locs ls hI hl
      refine lv_aload_n hx hb dX10_fill_2 rfl (lv_at hl 1 rfl) ?_
      refine lv_ifnull hx hb dX10_fill_3 ?_
      refine lv_iload_n hx hb dX10_fill_6 rfl (lv_at hl 0 rfl) ?_
      refine lv_aload_n hx hb dX10_fill_7 rfl (lv_at hl 1 rfl) ?_
      refine q_alen hx hb hK hI 0 rfl hr1.1 rfl dX10_fill_8 ?_
      have hlen : (List.replicate j x ++ L.drop j).length = L.length := by rw [hr1.2.1, hr.2.1]
      have hq := q_nIin (j := j) (k := (List.replicate j x ++ L.drop j).length) (by omega) (by omega)
      refine lv_icmp_ge (tgt := 22) hx hb dX10_fill_9 (by decide) (fun c2 => absurd c2 hq.2) (fun c2 => ?_)
      refine lv_aload_n hx hb dX10_fill_12 rfl (lv_at hl 1 rfl) ?_
      refine lv_iload_n hx hb dX10_fill_13 rfl (lv_at hl 0 rfl) ?_
      refine lv_iload_n hx hb dX10_fill_14 rfl (lv_at hl 2 rfl) ?_
      refine q_iast hx hb hK hI hr1.1 (q_vpin (by omega) (q_nlt hq.1) (q_nle hq.2)) dX10_fill_15 (fun H locs hI => ?_)
      refine lv_iinc (v := nI (j + 1)) (lv' := [(2, .int (nI (j + 1))), (0, .ref r), (1, .int x)]) hx hb dX10_fill_16 hl (k := 0) rfl (by rw [nI_succ]; rfl) (by decide) rfl (fun ls hl => ?_)
      refine lv_goto (tgt := 2) hx hb dX10_fill_19 (by decide) ?_
      have hr2 := hr1.put (i := (nI j).toNatClampNeg) x (by rw [nI_clamp (by omega)]; omega)
      refine ih (j + 1) (by omega) _ ?_ (hS.tr (qFr.up (by decide)) (fun q h => h)) H locs ls hI hl
      have e2 : (List.replicate j x ++ L.drop j).set (nI j).toNatClampNeg x = List.replicate (j + 1) x ++ L.drop (j + 1) := by
        rw [nI_clamp (by omega)]; exact q_fillS (by omega)
      rw [← e2]
      exact hr2
  exact loop L.length 0 (by omega) M hr qFr.rf _ _ _ hI hl
set_option maxHeartbeats 4000000 in
theorem c_X10_copyRow (l : Launch) (D : va_G) (cs : qC) {M : qM} {N r1 r2 k : Nat} {L1 L2 : List Int32} (hr1 : qRow cs M r1 L1 k) (hr2 : qRow cs M r2 L2 k) (hne : r1 ≠ r2) :
    qMet l D cs yX10_copyRow (qws yX10_copyRow cX10_copyRow 3 none) { frames := 1, cells := 0, slots := 0, locals := 21 } M N [.ref r1, .ref r2] (qMod N none (fun M' => qRow cs M' r2 L1 k ∧ qFr (qIn r2 1) M M')) 0 0 := by
  refine q_head (by decide) ?_ (Nat.le_of_ble_eq_true rfl)
  intro p e s m below meth c ls hx hb hret hlk hml hown hnm hg hK hN hI hl
  have hlt : L2.length < 2 ^ 31 := by rw [hr2.2.1]; exact hr2.2.2
  have hee : L1.length = L2.length := hr1.2.1.trans hr2.2.1.symm
  have hl : lv_has ls 3 [(0, .ref r1), (1, .ref r2)] := hl
  refine lv_iconst (v := nI 0) hx hb dX10_copyRow_0 (by decide) ?_
  refine lv_istore_n (lv' := [(2, .int (nI 0)), (0, .ref r1), (1, .ref r2)]) hx hb dX10_copyRow_1 rfl hl (by decide) rfl (fun ls hl => ?_)
  have loop : ∀ (n j : Nat), n + j = L2.length → ∀ (M1 : qM), qRow cs M1 r1 L1 k → qRow cs M1 r2 (L1.take j ++ L2.drop j) k → qFr (qIn r2 1) M M1 → ∀ (H : Heap) (locs : List Loc) (ls : Array Slot), qI D M s.heap M1 N H locs → lv_has ls 3 [(2, .int (nI j)), (0, .ref r1), (1, .ref r2)] →
      W p l e { frames := 1, cells := 0, slots := 0, locals := 21 } s m [Value.ref r1, Value.ref r2].toArray below meth c H locs 0 0 (MQ below (qQ D M N (qMod N none (fun M' => qRow cs M' r2 L1 k ∧ qFr (qIn r2 1) M M'))) [Value.ref r1, Value.ref r2].toArray s 0 0 (qA M N)) (F0 m 2 ls []) := by
    intro n
    induction n with
    | zero =>
      intro j hj M1 hr1 hr2' hS H locs ls hI hl
      refine lv_aload_n hx hb dX10_copyRow_2 rfl (lv_at hl 2 rfl) ?_
      refine lv_ifnull hx hb dX10_copyRow_3 ?_
      refine lv_iload_n hx hb dX10_copyRow_6 rfl (lv_at hl 0 rfl) ?_
      refine lv_aload_n hx hb dX10_copyRow_7 rfl (lv_at hl 2 rfl) ?_
      refine q_alen hx hb hK hI 0 rfl hr2'.1 rfl dX10_copyRow_8 ?_
      refine lv_icmp_ge (tgt := 26) hx hb dX10_copyRow_9 (by decide) (fun c2 => ?_) (fun c2 => ?_)
      · have e1 : L1.take j ++ L2.drop j = L1 := by
          rw [show j = L2.length by omega, List.drop_length, List.append_nil, ← hee, List.take_length]
        exact q_vret (st := []) hx hb hret hlk hN hI ⟨rfl, ⟨by rw [e1] at hr2'; exact hr2', hS⟩, rfl⟩ dX10_copyRow_26
      · exact absurd (by show Int32.ofNat _ ≤ _; rw [hr2'.2.1, ← hr2.2.1]; exact nI_le (by omega) (by omega)) c2
    | succ n ih =>
      intro j hj M1 hr1 hr2' hS H locs ls hI hl
      refine lv_aload_n hx hb dX10_copyRow_2 rfl (lv_at hl 2 rfl) ?_
      refine lv_ifnull hx hb dX10_copyRow_3 ?_
      refine lv_iload_n hx hb dX10_copyRow_6 rfl (lv_at hl 0 rfl) ?_
      refine lv_aload_n hx hb dX10_copyRow_7 rfl (lv_at hl 2 rfl) ?_
      refine q_alen hx hb hK hI 0 rfl hr2'.1 rfl dX10_copyRow_8 ?_
      have hlen : (L1.take j ++ L2.drop j).length = L2.length := by rw [hr2'.2.1, hr2.2.1]
      have hq := q_nIin (j := j) (k := (L1.take j ++ L2.drop j).length) (by omega) (by omega)
      refine lv_icmp_ge (tgt := 26) hx hb dX10_copyRow_9 (by decide) (fun c2 => absurd c2 hq.2) (fun c2 => ?_)
      refine lv_aload_n hx hb dX10_copyRow_12 rfl (lv_at hl 2 rfl) ?_
      refine lv_iload_n hx hb dX10_copyRow_13 rfl (lv_at hl 0 rfl) ?_
      refine lv_aload_n hx hb dX10_copyRow_14 rfl (lv_at hl 1 rfl) ?_
      refine lv_iload_n hx hb dX10_copyRow_15 rfl (lv_at hl 0 rfl) ?_
      refine q_goR (q_runS (As := [.ref r1, .int (nI j)]) (rest := [.int (nI j), .ref r2]) hx hb hml hown hg (c_X10_at l D cs hr1 (nI j)) v_X10_at wl_X10_318 rfl rfl ⟨Nat.le_of_ble_eq_true rfl, Nat.le_of_ble_eq_true rfl⟩ hI hK hl.1 rfl rfl (Nat.le_of_ble_eq_true rfl) dX10_copyRow_16 ⟨Nat.le_of_ble_eq_true rfl, Nat.le_of_ble_eq_true rfl⟩) hI (fun H locs hI => ?_)
      refine q_iast hx hb hK hI hr2'.1 (q_vpin (by omega) (q_nlt hq.1) (q_nle hq.2)) dX10_copyRow_19 (fun H locs hI => ?_)
      refine lv_iinc (v := nI (j + 1)) (lv' := [(2, .int (nI (j + 1))), (0, .ref r1), (1, .ref r2)]) hx hb dX10_copyRow_20 hl (k := 0) rfl (by rw [nI_succ]; rfl) (by decide) rfl (fun ls hl => ?_)
      refine lv_goto (tgt := 2) hx hb dX10_copyRow_23 (by decide) ?_
      have hr3 := hr2'.put (i := (nI j).toNatClampNeg) (rowAt L1 (nI j)) (by rw [nI_clamp (by omega)]; omega)
      refine ih (j + 1) (by omega) _ (hr1.same (qUp_ne hne)) ?_ (hS.tr (qFr.up (by decide)) (fun q h => h)) H locs ls hI hl
      have e2 : (L1.take j ++ L2.drop j).set (nI j).toNatClampNeg (rowAt L1 (nI j)) = L1.take (j + 1) ++ L2.drop (j + 1) := by
        rw [nI_clamp (by omega), rowAt_nI (by omega) (by omega)]; exact q_copyS (by omega) hee
      rw [← e2]
      exact hr3
  exact loop L2.length 0 (by omega) M hr1 hr2 qFr.rf _ _ _ hI hl
