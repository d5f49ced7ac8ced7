/-! LAW: its second object -/
/-- what the row of answers holds: of each state before a change, newest first -/
def WasOk (g : Nat → Int64) (Qd : List qQV) : Prop := ∀ j q, Qd[j]? = some q → g (Qd.length - 1 - j) = askV q
theorem WasOk.push {g : Nat → Int64} {Qd : List qQV} (h : WasOk g Qd) (q : qQV) : WasOk (vp_updL g Qd.length (askV q)) (q :: Qd) := by
  intro j r hr
  match j with
  | 0 =>
    have : q = r := Option.some.inj hr
    subst this
    show vp_updL g Qd.length (askV q) (Qd.length + 1 - 1 - 0) = _
    rw [show Qd.length + 1 - 1 - 0 = Qd.length by omega]
    exact pk_uLs
  | j + 1 =>
    rw [List.getElem?_cons_succ] at hr
    have hj : j < Qd.length := (List.getElem?_eq_some_iff.mp hr).1
    show vp_updL g Qd.length (askV q) (Qd.length + 1 - 1 - (j + 1)) = _
    rw [pk_uLn (by omega), show Qd.length + 1 - 1 - (j + 1) = Qd.length - 1 - j by omega]
    exact h j r hr
theorem min_nI {d : Nat} (hd : d ≤ 10) : (if nI d < (8 : Int32) then nI d else 8) = nI (min 8 d) := by
  by_cases h : d < 8
  · rw [if_pos (show nI d < (8 : Int32) from nI_lt (b := 8) h (by decide)), Nat.min_eq_right (by omega)]
  · rw [if_neg (show ¬ nI d < (8 : Int32) from nI_nlt (b := 8) (by omega) (by omega)), Nat.min_eq_left (by omega)]
    rfl
theorem nI_sb {a b : Nat} (h : b ≤ a) : nI a - nI b = nI (a - b) := pk_sub h
theorem q_rmC : 1000 ≤ room_1.cells := Nat.le_of_ble_eq_true rfl
theorem q_rmS : 10000 ≤ room_1.slots := Nat.le_of_ble_eq_true rfl
theorem wx_minL : Cond.methodLink RL 215 Lib.Math.min.name ∈ qG := (qT6_in 11 (by decide +kernel) rfl)
set_option maxHeartbeats 1600000 in
set_option maxRecDepth 20000 in
theorem law_u {p : Program} {l : Launch} {e : Env} {s : State} {m : MethodId} {below : List Frame} {meth : Method} {c : Code} {b L : Nat} {xs : Nat → Int32} {Z : State → Prop} {D : va_G} {cs : qC} (hx : p.tables.exec = Jvm.exec) (hb : c.code = code) (hml : c.maxLocals = 11) (hown : s.vm.findClass RL = some m.cls) (hg : ∀ w ∈ qG, w.before #[Value.ref b] s = true) (hK : qK D cs s) (hP : jX s.heap.size cs s s.heap) (hL31 : L < 2 ^ 31) (hSc : qSc b L xs (qGe0 s.heap.size) s s.heap)
    {M0 : qM} (hd : qDom s.heap.size M0 s.heap.size)
    {N N1 : Nat} {q0 : qQV} (hq0 : Iv q0) (hNN : N + 167 ≤ N1)
    (K : ∀ (M : qM) (N : Nat) (H : Heap) (locs : List Loc) (ls : Array Slot), qI D M0 s.heap M N H locs → W p l e room_1 s m #[Value.ref b] below meth c H locs 423 5441 Z (F0 m 795 ls [.int 1]))
    (g : Nat → Int64) (Q0 : List qQV) (cc : Nat) (hc2 : cc ≤ 8) (f : Int32 × Int32) (qt : qQV) (h : qHV) (i : qIV) (n : qNV) (rs : qRV) (M : qM) (N2 : Nat) (H : Heap) (locs : List Loc) (ls : Array Slot) (hf1 : f.2 = 1) (hH : HI h Q0 cc) (hN2 : N1 < N2) (hW : M N1 = some (.inl (cs 3, 11, .inr (.inl g)))) (oX : qLX cs M N f) (oQ : qLQ cs M (N + 1) q0) (oK : qLQ cs M (N + 14) q0) (oT : qLQ cs M (N + 27) qt) (oH : qLH cs M (N + 40) h) (oI : qLI cs M (N + 159) i) (oN : qLN cs M (N + 164) n) (oR : qLR cs M (N + 166) rs) (hI : qI D M0 s.heap M N2 H locs) (hl : lv_has ls 11 [(8, .int (nI 0)), (7, .int (nI 0)), (6, .ref N1), (5, .int q0.1.2.2), (3, .long (askV q0)), (2, .ref N), (0, .ref b)]) : W p l e room_1 s m #[Value.ref b] below meth c H locs 343 3501 Z (F0 m 609 ls []) := by
  have t745 : ∀ (g : Nat → Int64) (Q : List qQV) (cc : Nat) (f : Int32 × Int32) (q qt : qQV) (h : qHV) (i : qIV) (n : qNV) (rs : qRV) (M : qM) (N2 : Nat) (H : Heap) (locs : List Loc) (ls : Array Slot), f.2 = 1 → HI h Q cc → N1 < N2 → M N1 = some (.inl (cs 3, 11, .inr (.inl g))) → qLX cs M N f → qLQ cs M (N + 1) q → qLQ cs M (N + 14) q0 → qLQ cs M (N + 27) qt → qLH cs M (N + 40) h → qLI cs M (N + 159) i → qLN cs M (N + 164) n → qLR cs M (N + 166) rs → qI D M0 s.heap M N2 H locs → lv_has ls 11 [(6, .ref N1), (5, .int q0.1.2.2), (3, .long (askV q0)), (2, .ref N), (0, .ref b)] → W p l e room_1 s m #[Value.ref b] below meth c H locs 423 5441 Z (F0 m 745 ls []) := by
    intro g Q cc f q qt h i n rs M N2 H locs ls hf1 hH hN2 hW oX oQ oK oT oH oI oN oR hI hl
    have hf0 : ¬ f.2 = 0 := by rw [hf1]; decide
    have hq := hq0
    refine lv_aload_n hx hb dL_law_745 rfl (lv_at hl 3 rfl) ?_
    refine q_goP (q_runV (As := []) (rest := []) hx hb hml hown hg (c_X10_restore l D cs oX oQ oK oH) v_X10_restore wl_L_197 rfl rfl ⟨Nat.le_of_ble_eq_true rfl, Nat.le_of_ble_eq_true rfl⟩ hI hK 10 oX rfl hl.1 rfl rfl (Nat.le_of_ble_eq_true rfl) dL_law_746 ⟨Nat.le_of_ble_eq_true rfl, Nat.le_of_ble_eq_true rfl⟩) hI (fun M101 H locs hp hI => ?_)
    rw [e_restore hf0] at hp ⊢
    obtain ⟨z0, z1, hF⟩ := hp
    replace oQ : qLQ cs M101 (N + 1) q0 := z0
    replace oH : qLH cs M101 (N + 40) (s_X2_forget h) := z1
    replace oX := oX.fr hF (fun z h1 h2 hz => by omega)
    replace oK := oK.fr hF (fun z h1 h2 hz => by omega)
    replace oT := oT.fr hF (fun z h1 h2 hz => by omega)
    replace oI := oI.fr hF (fun z h1 h2 hz => by omega)
    replace oN := oN.fr hF (fun z h1 h2 hz => by omega)
    replace oR := oR.fr hF (fun z h1 h2 hz => by omega)
    replace hW := (hF N1 (fun hz => by omega)).trans hW
    refine lv_iload hx hb dL_law_749 (lv_at hl 1 rfl) ?_
    refine lv_icmp_ne (tgt := 794) hx hb dL_law_751 (by decide) (fun h9 => absurd rfl h9) (fun h9 => ?_)
    refine lv_aload_n hx hb dL_law_754 rfl (lv_at hl 3 rfl) ?_
    refine q_goP (q_runV (As := []) (rest := []) hx hb hml hown hg (c_X10_undo l D cs oX oQ oH) v_X10_undo wl_L_194 rfl rfl ⟨Nat.le_of_ble_eq_true rfl, Nat.le_of_ble_eq_true rfl⟩ hI hK 10 oX rfl hl.1 rfl rfl (Nat.le_of_ble_eq_true rfl) dL_law_755 ⟨Nat.le_of_ble_eq_true rfl, Nat.le_of_ble_eq_true rfl⟩) hI (fun M102 H locs hp hI => ?_)
    rw [no_undo hH.forget] at hp ⊢
    obtain ⟨z0, z1, hF⟩ := hp
    replace oQ : qLQ cs M102 (N + 1) q0 := z0
    replace oH : qLH cs M102 (N + 40) (s_X2_forget h) := z1
    replace oX := oX.fr hF (fun z h1 h2 hz => by omega)
    replace oK := oK.fr hF (fun z h1 h2 hz => by omega)
    replace oT := oT.fr hF (fun z h1 h2 hz => by omega)
    replace oI := oI.fr hF (fun z h1 h2 hz => by omega)
    replace oN := oN.fr hF (fun z h1 h2 hz => by omega)
    replace oR := oR.fr hF (fun z h1 h2 hz => by omega)
    replace hW := (hF N1 (fun hz => by omega)).trans hW
    refine lv_bipush (v := (-4)) hx hb dL_law_758 (by decide) ?_
    refine lv_icmp_ne (tgt := 794) hx hb dL_law_760 (by decide) (fun h9 => absurd rfl h9) (fun h9 => ?_)
    refine lv_aload_n hx hb dL_law_763 rfl (lv_at hl 3 rfl) ?_
    refine q_goP (q_runS (As := [.ref N]) (rest := []) hx hb hml hown hg (c_L_asks l D cs oX oQ oT oH oI oN (nan_no hq)) v_L_asks wl_L_172 rfl rfl ⟨Nat.le_of_ble_eq_true rfl, Nat.le_of_ble_eq_true rfl⟩ hI hK hl.1 rfl rfl (Nat.le_of_ble_eq_true rfl) dL_law_764 ⟨Nat.le_of_ble_eq_true rfl, Nat.le_of_ble_eq_true rfl⟩) hI (fun M103 H locs hp hI => ?_)
    have he103 := ask_eq f hq qt (s_X2_forget h) i (n := n) oN.2.2.1
    generalize s_L_asks f q0 qt (s_X2_forget h) i n = A103 at hp he103 ⊢
    obtain ⟨z0, z1, hF⟩ := hp
    rw [he103]
    replace oT := z0
    replace oN := z1
    replace oX := oX.fr hF (fun z h1 h2 hz => by omega)
    replace oQ := oQ.fr hF (fun z h1 h2 hz => by omega)
    replace oK := oK.fr hF (fun z h1 h2 hz => by omega)
    replace oH := oH.fr hF (fun z h1 h2 hz => by omega)
    replace oI := oI.fr hF (fun z h1 h2 hz => by omega)
    replace oR := oR.fr hF (fun z h1 h2 hz => by omega)
    replace hW := (hF N1 (fun hz => by omega)).trans hW
    refine lv_lload_n hx hb dL_law_767 rfl (lv_at hl 2 rfl) ?_
    refine W.lcmp hx hb dL_law_768 ?_
    rw [lcmp_eq]
    refine lv_if_ne (tgt := 794) hx hb dL_law_769 (by decide) (fun h9 => absurd rfl h9) (fun h9 => ?_)
    refine lv_aload_n hx hb dL_law_772 rfl (lv_at hl 3 rfl) ?_
    refine q_goP (q_runV (As := []) (rest := []) hx hb hml hown hg (c_X10_restore l D cs oX oQ oK oH) v_X10_restore wl_L_197 rfl rfl ⟨Nat.le_of_ble_eq_true rfl, Nat.le_of_ble_eq_true rfl⟩ hI hK 10 oX rfl hl.1 rfl rfl (Nat.le_of_ble_eq_true rfl) dL_law_773 ⟨Nat.le_of_ble_eq_true rfl, Nat.le_of_ble_eq_true rfl⟩) hI (fun M104 H locs hp hI => ?_)
    rw [e_restore hf0] at hp ⊢
    obtain ⟨z0, z1, hF⟩ := hp
    replace oQ : qLQ cs M104 (N + 1) q0 := z0
    replace oH : qLH cs M104 (N + 40) (s_X2_forget (s_X2_forget h)) := z1
    replace oX := oX.fr hF (fun z h1 h2 hz => by omega)
    replace oK := oK.fr hF (fun z h1 h2 hz => by omega)
    replace oT := oT.fr hF (fun z h1 h2 hz => by omega)
    replace oI := oI.fr hF (fun z h1 h2 hz => by omega)
    replace oN := oN.fr hF (fun z h1 h2 hz => by omega)
    replace oR := oR.fr hF (fun z h1 h2 hz => by omega)
    replace hW := (hF N1 (fun hz => by omega)).trans hW
    refine lv_iload hx hb dL_law_776 (lv_at hl 1 rfl) ?_
    refine lv_icmp_ne (tgt := 794) hx hb dL_law_778 (by decide) (fun h9 => absurd rfl h9) (fun h9 => ?_)
    refine lv_aload_n hx hb dL_law_781 rfl (lv_at hl 3 rfl) ?_
    refine q_goP (q_runS (As := [.ref N]) (rest := []) hx hb hml hown hg (c_L_asks l D cs oX oQ oT oH oI oN (nan_no hq)) v_L_asks wl_L_172 rfl rfl ⟨Nat.le_of_ble_eq_true rfl, Nat.le_of_ble_eq_true rfl⟩ hI hK hl.1 rfl rfl (Nat.le_of_ble_eq_true rfl) dL_law_782 ⟨Nat.le_of_ble_eq_true rfl, Nat.le_of_ble_eq_true rfl⟩) hI (fun M105 H locs hp hI => ?_)
    have he105 := ask_eq f hq A103.2.1 (s_X2_forget (s_X2_forget h)) i (n := A103.2.2) oN.2.2.1
    generalize s_L_asks f q0 A103.2.1 (s_X2_forget (s_X2_forget h)) i A103.2.2 = A105 at hp he105 ⊢
    obtain ⟨z0, z1, hF⟩ := hp
    rw [he105]
    replace oT := z0
    replace oN := z1
    replace oX := oX.fr hF (fun z h1 h2 hz => by omega)
    replace oQ := oQ.fr hF (fun z h1 h2 hz => by omega)
    replace oK := oK.fr hF (fun z h1 h2 hz => by omega)
    replace oH := oH.fr hF (fun z h1 h2 hz => by omega)
    replace oI := oI.fr hF (fun z h1 h2 hz => by omega)
    replace oR := oR.fr hF (fun z h1 h2 hz => by omega)
    replace hW := (hF N1 (fun hz => by omega)).trans hW
    refine lv_lload_n hx hb dL_law_785 rfl (lv_at hl 2 rfl) ?_
    refine W.lcmp hx hb dL_law_786 ?_
    rw [lcmp_eq]
    refine lv_if_ne (tgt := 794) hx hb dL_law_787 (by decide) (fun h9 => absurd rfl h9) (fun h9 => ?_)
    refine lv_iconst (v := 1) hx hb dL_law_790 (by decide) ?_
    refine lv_goto (tgt := 795) hx hb dL_law_791 (by decide) ?_
    exact K _ _ _ _ _ hI
  have l688 : ∀ (g : Nat → Int64) (Qd Q0 : List qQV) (cn cc : Nat), cn ≤ cc → cc ≤ 8 → cn ≤ Qd.length → Qd.length ≤ 10 → (∀ z ∈ Qd, Iv z) → WasOk g Qd → ∀ (n0 k : Nat), n0 + k = cn → ∀ (f : Int32 × Int32) (q qt : qQV) (h : qHV) (i : qIV) (n : qNV) (rs : qRV) (M : qM) (N2 : Nat) (H : Heap) (locs : List Loc) (ls : Array Slot), f.2 = 1 → HI h (Qd.drop k ++ Q0) (cc - k) → N1 < N2 → M N1 = some (.inl (cs 3, 11, .inr (.inl g))) → qLX cs M N f → qLQ cs M (N + 1) q → qLQ cs M (N + 14) q0 → qLQ cs M (N + 27) qt → qLH cs M (N + 40) h → qLI cs M (N + 159) i → qLN cs M (N + 164) n → qLR cs M (N + 166) rs → qI D M0 s.heap M N2 H locs → lv_has ls 11 [(9, .int (nI (k + 1))), (8, .int (nI cn)), (7, .int (nI Qd.length)), (6, .ref N1), (5, .int q0.1.2.2), (3, .long (askV q0)), (2, .ref N), (0, .ref b)] → W p l e room_1 s m #[Value.ref b] below meth c H locs 423 5441 Z (F0 m 688 ls []) := by
    intro g Qd Q0 cn cc hc1 hc2 hc3 hc4 hiv hwas n0
    induction n0 with
    | zero =>
      intro k hk f q qt h i n rs M N2 H locs ls hf1 hH hN2 hW oX oQ oK oT oH oI oN oR hI hl
      refine lv_iload hx hb dL_law_688 (lv_at hl 0 rfl) ?_
      refine lv_iload hx hb dL_law_690 (lv_at hl 1 rfl) ?_
      refine lv_icmp_gt (tgt := 745) hx hb dL_law_692 (by decide) (fun h9 => ?_) (fun h9 => absurd (nI_lt (by omega) (by omega)) h9)
      exact t745 g _ _ f q qt h i n rs M N2 H locs _ hf1 hH hN2 hW oX oQ oK oT oH oI oN oR hI (lv_sub hl [3, 4, 5, 6, 7] rfl)
    | succ n0 ih =>
      intro k hk f q qt h i n rs M N2 H locs ls hf1 hH hN2 hW oX oQ oK oT oH oI oN oR hI hl
      refine lv_iload hx hb dL_law_688 (lv_at hl 0 rfl) ?_
      refine lv_iload hx hb dL_law_690 (lv_at hl 1 rfl) ?_
      refine lv_icmp_gt (tgt := 745) hx hb dL_law_692 (by decide) (fun h9 => absurd h9 (nI_nlt (by omega) (by omega))) (fun h9 => ?_)
      refine lv_aload_n hx hb dL_law_695 rfl (lv_at hl 6 rfl) ?_
      have hkd : k < Qd.length := by omega
      obtain ⟨qp, hqp⟩ : ∃ z, Qd[k]? = some z := ⟨_, List.getElem?_eq_getElem hkd⟩
      have hdr : Qd.drop k = qp :: Qd.drop (k + 1) := by rw [List.drop_eq_getElem_cons hkd]; rw [List.getElem?_eq_getElem hkd] at hqp; rw [Option.some.inj hqp]
      obtain ⟨c2, hc5⟩ : ∃ z, cc - k = z + 1 := ⟨cc - k - 1, by omega⟩
      rw [hdr, hc5] at hH
      obtain ⟨h2, eh2, hH2⟩ := ok_undo (f := f) (q := q) hH
      have hq : Iv qp := hiv qp (List.mem_of_getElem? hqp)
      refine q_goP (q_runV (As := []) (rest := []) hx hb hml hown hg (c_X10_undo l D cs oX oQ oH) v_X10_undo wl_L_194 rfl rfl ⟨Nat.le_of_ble_eq_true rfl, Nat.le_of_ble_eq_true rfl⟩ hI hK 10 oX rfl hl.1 rfl rfl (Nat.le_of_ble_eq_true rfl) dL_law_696 ⟨Nat.le_of_ble_eq_true rfl, Nat.le_of_ble_eq_true rfl⟩) hI (fun M101 H locs hp hI => ?_)
      rw [eh2] at hp ⊢
      obtain ⟨z0, z1, hF⟩ := hp
      replace oQ : qLQ cs M101 (N + 1) qp := z0
      replace oH : qLH cs M101 (N + 40) h2 := z1
      replace oX := oX.fr hF (fun z h1 h2 hz => by omega)
      replace oK := oK.fr hF (fun z h1 h2 hz => by omega)
      replace oT := oT.fr hF (fun z h1 h2 hz => by omega)
      replace oI := oI.fr hF (fun z h1 h2 hz => by omega)
      replace oN := oN.fr hF (fun z h1 h2 hz => by omega)
      replace oR := oR.fr hF (fun z h1 h2 hz => by omega)
      replace hW := (hF N1 (fun hz => by omega)).trans hW
      refine lv_istore (lv' := [(10, .int (nI c2)), (9, .int (nI (k + 1))), (8, .int (nI cn)), (7, .int (nI Qd.length)), (6, .ref N1), (5, .int q0.1.2.2), (3, .long (askV q0)), (2, .ref N), (0, .ref b)]) hx hb dL_law_699 hl (by decide) rfl (fun ls hl => ?_)
      refine lv_iload hx hb dL_law_701 (lv_at hl 0 rfl) ?_
      refine lv_iload hx hb dL_law_703 (lv_at hl 2 rfl) ?_
      refine lv_iload hx hb dL_law_705 (lv_at hl 1 rfl) ?_
      refine lv_isub hx hb dL_law_707 ?_
      rw [nI_sb (show k + 1 ≤ cn by omega)]
      refine lv_icmp_lt (tgt := 737) hx hb dL_law_708 (by decide) (fun h9 => absurd h9 (nI_nlt (by omega) (by omega))) (fun h9 => ?_)
      refine lv_iload hx hb dL_law_711 (lv_at hl 0 rfl) ?_
      refine lv_bipush (v := 8) hx hb dL_law_713 (by decide) ?_
      refine lv_iload hx hb dL_law_715 (lv_at hl 1 rfl) ?_
      refine lv_isub hx hb dL_law_717 ?_
      rw [show (8 : Int32) - nI (k + 1) = nI (8 - (k + 1)) from nI_sb (a := 8) (by omega)]
      refine lv_icmp_gt (tgt := 737) hx hb dL_law_718 (by decide) (fun h9 => absurd h9 (nI_nlt (by omega) (by omega))) (fun h9 => ?_)
      refine lv_aload_n hx hb dL_law_721 rfl (lv_at hl 7 rfl) ?_
      refine q_goP (q_runS (As := [.ref N]) (rest := []) hx hb hml hown hg (c_L_asks l D cs oX oQ oT oH oI oN (nan_no hq)) v_L_asks wl_L_172 rfl rfl ⟨Nat.le_of_ble_eq_true rfl, Nat.le_of_ble_eq_true rfl⟩ hI hK hl.1 rfl rfl (Nat.le_of_ble_eq_true rfl) dL_law_722 ⟨Nat.le_of_ble_eq_true rfl, Nat.le_of_ble_eq_true rfl⟩) hI (fun M102 H locs hp hI => ?_)
      have he102 := ask_eq f hq qt h2 i (n := n) oN.2.2.1
      generalize s_L_asks f qp qt h2 i n = A102 at hp he102 ⊢
      obtain ⟨z0, z1, hF⟩ := hp
      rw [he102]
      replace oT := z0
      replace oN := z1
      replace oX := oX.fr hF (fun z h1 h2 hz => by omega)
      replace oQ := oQ.fr hF (fun z h1 h2 hz => by omega)
      replace oK := oK.fr hF (fun z h1 h2 hz => by omega)
      replace oH := oH.fr hF (fun z h1 h2 hz => by omega)
      replace oI := oI.fr hF (fun z h1 h2 hz => by omega)
      replace oR := oR.fr hF (fun z h1 h2 hz => by omega)
      replace hW := (hF N1 (fun hz => by omega)).trans hW
      refine lv_aload hx hb dL_law_725 (lv_at hl 4 rfl) ?_
      refine lv_iload hx hb dL_law_727 (lv_at hl 3 rfl) ?_
      refine lv_iload hx hb dL_law_729 (lv_at hl 1 rfl) ?_
      refine lv_isub hx hb dL_law_731 ?_
      rw [nI_sb (show k + 1 ≤ Qd.length by omega)]
      refine q_lald hx hb hK hI hW (vp_in_nI (by omega) (by decide)) dL_law_732 ?_
      rw [nI_clamp (by omega), show Qd.length - (k + 1) = Qd.length - 1 - k by omega, hwas k qp hqp]
      refine W.lcmp hx hb dL_law_733 ?_
      rw [lcmp_eq]
      refine lv_if_eq (tgt := 739) hx hb dL_law_734 (by decide) (fun h9 => ?_) (fun h9 => absurd rfl h9)
      refine lv_iinc (v := nI (k + 1 + 1)) (lv' := [(9, .int (nI (k + 1 + 1))), (10, .int (nI c2)), (8, .int (nI cn)), (7, .int (nI Qd.length)), (6, .ref N1), (5, .int q0.1.2.2), (3, .long (askV q0)), (2, .ref N), (0, .ref b)]) hx hb dL_law_739 hl (k := 1) rfl (by rw [nI_succ (k + 1)]; rfl) (by decide) rfl (fun ls hl => ?_)
      refine lv_goto (tgt := 688) hx hb dL_law_742 (by decide) ?_
      exact ih (k + 1) (by omega) _ _ _ _ _ _ _ _ _ _ _ _ hf1 (by rw [show cc - (k + 1) = c2 by omega]; exact hH2) hN2 hW oX oQ oK oT oH oI oN oR hI (lv_sub hl [0, 2, 3, 4, 5, 6, 7, 8] rfl)
  have t676 : ∀ (g : Nat → Int64) (Qd Q0 : List qQV) (cc : Nat), min 8 Qd.length ≤ cc → cc ≤ 8 → Qd.length ≤ 10 → (∀ z ∈ Qd, Iv z) → WasOk g Qd → ∀ (f : Int32 × Int32) (q qt : qQV) (h : qHV) (i : qIV) (n : qNV) (rs : qRV) (M : qM) (N2 : Nat) (H : Heap) (locs : List Loc) (ls : Array Slot), f.2 = 1 → HI h (Qd ++ Q0) cc → N1 < N2 → M N1 = some (.inl (cs 3, 11, .inr (.inl g))) → qLX cs M N f → qLQ cs M (N + 1) q → qLQ cs M (N + 14) q0 → qLQ cs M (N + 27) qt → qLH cs M (N + 40) h → qLI cs M (N + 159) i → qLN cs M (N + 164) n → qLR cs M (N + 166) rs → qI D M0 s.heap M N2 H locs → lv_has ls 11 [(7, .int (nI Qd.length)), (6, .ref N1), (5, .int q0.1.2.2), (3, .long (askV q0)), (2, .ref N), (0, .ref b)] → W p l e room_1 s m #[Value.ref b] below meth c H locs 423 5441 Z (F0 m 676 ls []) := by
    intro g Qd Q0 cc hc1 hc2 hc4 hiv hwas f q qt h i n rs M N2 H locs ls hf1 hH hN2 hW oX oQ oK oT oH oI oN oR hI hl
    refine lv_bipush (v := 8) hx hb dL_law_676 (by decide) ?_
    refine lv_iload hx hb dL_law_678 (lv_at hl 0 rfl) ?_
    refine va_mmin hx hb (hml.trans hl.1.symm) hown (hg _ wx_minL) (hg _ wm_min.1) (hg _ wm_ini) (hg _ wm_min.2) (Nat.le_of_ble_eq_true rfl) (Nat.le_of_ble_eq_true rfl) (Nat.le_of_ble_eq_true rfl) (Nat.le_of_ble_eq_true rfl) dL_law_680 ?_
    rw [min_nI hc4]
    refine lv_istore (lv' := [(8, .int (nI (min 8 Qd.length))), (7, .int (nI Qd.length)), (6, .ref N1), (5, .int q0.1.2.2), (3, .long (askV q0)), (2, .ref N), (0, .ref b)]) hx hb dL_law_683 hl (by decide) rfl (fun ls hl => ?_)
    refine lv_iconst (v := 1) hx hb dL_law_685 (by decide) ?_
    refine lv_istore (lv' := [(9, .int 1), (8, .int (nI (min 8 Qd.length))), (7, .int (nI Qd.length)), (6, .ref N1), (5, .int q0.1.2.2), (3, .long (askV q0)), (2, .ref N), (0, .ref b)]) hx hb dL_law_686 hl (by decide) rfl (fun ls hl => ?_)
    exact l688 g Qd Q0 (min 8 Qd.length) cc hc1 hc2 (by omega) hc4 hiv hwas _ 0 rfl f q qt h i n rs M N2 H locs _ hf1 hH hN2 hW oX oQ oK oT oH oI oN oR hI (lv_sub hl [0, 1, 2, 3, 4, 5, 6, 7] rfl)
  have l609 : ∀ (n0 k C S : Nat), n0 + k = 10 → C + 8 * n0 = 423 → S + 194 * n0 = 5441 → ∀ (g : Nat → Int64) (Qd Q0 : List qQV) (cc : Nat), min 8 Qd.length ≤ cc → cc ≤ 8 → Qd.length ≤ k → (∀ z ∈ Qd, Iv z) → WasOk g Qd → ∀ (f : Int32 × Int32) (q qt : qQV) (h : qHV) (i : qIV) (n : qNV) (rs : qRV) (M : qM) (N2 : Nat) (H : Heap) (locs : List Loc) (ls : Array Slot), f.2 = 1 → Iv q → HI h (Qd ++ Q0) cc → N1 < N2 → M N1 = some (.inl (cs 3, 11, .inr (.inl g))) → qLX cs M N f → qLQ cs M (N + 1) q → qLQ cs M (N + 14) q0 → qLQ cs M (N + 27) qt → qLH cs M (N + 40) h → qLI cs M (N + 159) i → qLN cs M (N + 164) n → qLR cs M (N + 166) rs → qI D M0 s.heap M N2 H locs → lv_has ls 11 [(8, .int (nI k)), (7, .int (nI Qd.length)), (6, .ref N1), (5, .int q0.1.2.2), (3, .long (askV q0)), (2, .ref N), (0, .ref b)] → W p l e room_1 s m #[Value.ref b] below meth c H locs C S Z (F0 m 609 ls []) := by
    intro n0
    induction n0 with
    | zero =>
      intro k C S hk hC hS g Qd Q0 cc hc1 hc2 hc4 hiv hwas f q qt h i n rs M N2 H locs ls hf1 hq hH hN2 hW oX oQ oK oT oH oI oN oR hI hl
      have hC1 : C = 423 := by omega
      have hS1 : S = 5441 := by omega
      subst hC1 hS1
      refine lv_iload hx hb dL_law_609 (lv_at hl 0 rfl) ?_
      refine lv_bipush (v := 10) hx hb dL_law_611 (by decide) ?_
      refine lv_icmp_ge (tgt := 676) hx hb dL_law_613 (by decide) (fun h9 => ?_) (fun h9 => absurd (by rw [show k = 10 by omega]; decide) h9)
      exact t676 g Qd Q0 cc hc1 hc2 (by omega) hiv hwas f q qt h i n rs M N2 H locs _ hf1 hH hN2 hW oX oQ oK oT oH oI oN oR hI (lv_sub hl [1, 2, 3, 4, 5, 6] rfl)
    | succ n0 ih =>
      intro k C S hk hC hS g Qd Q0 cc hc1 hc2 hc4 hiv hwas f q qt h i n rs M N2 H locs ls hf1 hq hH hN2 hW oX oQ oK oT oH oI oN oR hI hl
      refine lv_iload hx hb dL_law_609 (lv_at hl 0 rfl) ?_
      refine lv_bipush (v := 10) hx hb dL_law_611 (by decide) ?_
      refine lv_icmp_ge (tgt := 676) hx hb dL_law_613 (by decide) (fun h9 => absurd h9 (nI_ge (b := 10) (by omega) (by decide))) (fun h9 => ?_)
      refine lv_aload_n hx hb dL_law_616 rfl (lv_at hl 5 rfl) ?_
      refine q_goP (q_runS (As := [.ref N]) (rest := []) hx hb hml hown hg (c_L_asks l D cs oX oQ oT oH oI oN (nan_no hq)) v_L_asks wl_L_172 rfl rfl ⟨Nat.le_of_ble_eq_true rfl, Nat.le_of_ble_eq_true rfl⟩ hI hK hl.1 rfl rfl (Nat.le_of_ble_eq_true rfl) dL_law_617 ⟨by show C + _ ≤ room_1.cells; have hrc := q_rmC; omega, by show S + _ ≤ room_1.slots; have hrs := q_rmS; omega⟩) hI (fun M101 H locs hp hI => ?_)
      have he101 := ask_eq f hq qt h i (n := n) oN.2.2.1
      generalize s_L_asks f q qt h i n = A101 at hp he101 ⊢
      obtain ⟨z0, z1, hF⟩ := hp
      rw [he101]
      replace oT := z0
      replace oN := z1
      replace oX := oX.fr hF (fun z h1 h2 hz => by omega)
      replace oQ := oQ.fr hF (fun z h1 h2 hz => by omega)
      replace oK := oK.fr hF (fun z h1 h2 hz => by omega)
      replace oH := oH.fr hF (fun z h1 h2 hz => by omega)
      replace oI := oI.fr hF (fun z h1 h2 hz => by omega)
      replace oR := oR.fr hF (fun z h1 h2 hz => by omega)
      replace hW := (hF N1 (fun hz => by omega)).trans hW
      refine lv_lstore (lv' := [(9, .long (askV q)), (8, .int (nI k)), (7, .int (nI Qd.length)), (6, .ref N1), (5, .int q0.1.2.2), (3, .long (askV q0)), (2, .ref N), (0, .ref b)]) hx hb dL_law_620 hl (by decide) rfl (fun ls hl => ?_)
      refine lv_aload_n hx hb dL_law_622 rfl (lv_at hl 6 rfl) ?_
      refine lv_aload_n hx hb dL_law_623 rfl (lv_at hl 7 rfl) ?_
      refine lv_bipush (v := 20) hx hb dL_law_624 (by decide) ?_
      refine lv_iload hx hb dL_law_626 (lv_at hl 1 rfl) ?_
      refine lv_iadd hx hb dL_law_628 ?_
      rw [show (20 : Int32) + nI k = nI (20 + k) from nI_add 20 k]
      refine j_go (j_runS (As := [.ref b, .int (nI (20 + k))]) (rest := [.ref N]) hx hb hml hown hg (j_at l hL31 (nI (20 + k)) (nI_pos (by omega))) v_L_at wl_L_34 rfl rfl ⟨Nat.le_of_ble_eq_true rfl, Nat.le_of_ble_eq_true rfl⟩ (fun U V H hv h => va_T.moved hv h) ((hSc.kept (hI.zS rfl hd).2.1).narrow (fun _ z => z.elim)) hl.1 rfl rfl (Nat.le_of_ble_eq_true rfl) dL_law_629 ⟨by show C ≤ room_1.cells; have hrc := q_rmC; omega, by show S ≤ room_1.slots; have hrs := q_rmS; omega⟩) ?_
      refine lv_iload hx hb dL_law_632 (lv_at hl 1 rfl) ?_
      refine lv_sipush (v := 977) hx hb dL_law_634 (by decide) ?_
      refine lv_imul hx hb dL_law_637 ?_
      refine lv_ixor hx hb dL_law_638 ?_
      generalize ((scAt L xs (nI (20 + k))) ^^^ ((nI k) * 977)) = x
      refine q_go (f_runS (As := [.ref N, .int x]) (rest := []) hx hb hml hown hg (c_L_changes l D cs x (hI.dom rfl hd) (by omega) oX oQ oH oI oR hq hH) v_L_changes wl_L_211 rfl rfl ⟨Nat.le_of_ble_eq_true rfl, Nat.le_of_ble_eq_true rfl⟩ hI hK jX.sw (hI.jx rfl hd hP) hl.1 rfl rfl (Nat.le_of_ble_eq_true rfl) dL_law_639 ⟨by show C + _ ≤ room_1.cells; have hrc := q_rmC; omega, by show S + _ ≤ room_1.slots; have hrs := q_rmS; omega⟩) hI (fun r M7 N3 H locs hp hI => ?_)
      obtain ⟨x1, f1, q1, h1, i1, rs1, rfl, hcg, hf2, z0, z1, z2, z3, z4, hF, hle⟩ := hp
      replace oX := z0
      replace oQ := z1
      replace oH := z2
      replace oI := z3
      replace oR := z4
      replace oK := oK.fr hF (fun z h1 h2 hz => by omega)
      replace oT := oT.fr hF (fun z h1 h2 hz => by omega)
      replace oN := oN.fr hF (fun z h1 h2 hz => by omega)
      replace hW := (hF N1 (fun hz => by omega)).trans hW
      by_cases hx1 : 0 ≤ x1
      · rw [decide_eq_true hx1]
        refine lv_if_eq (tgt := 658) hx hb dL_law_642 (by decide) (fun h9 => absurd h9 qb1) (fun h9 => ?_)
        refine lv_aload hx hb dL_law_645 (lv_at hl 3 rfl) ?_
        refine lv_iload hx hb dL_law_647 (lv_at hl 2 rfl) ?_
        refine lv_iinc (v := nI (Qd.length + 1)) (lv' := [(7, .int (nI (Qd.length + 1))), (9, .long (askV q)), (8, .int (nI k)), (6, .ref N1), (5, .int q0.1.2.2), (3, .long (askV q0)), (2, .ref N), (0, .ref b)]) hx hb dL_law_649 hl (k := 2) rfl (by rw [nI_succ]; rfl) (by decide) rfl (fun ls hl => ?_)
        refine lv_lload hx hb dL_law_652 (lv_at hl 1 rfl) ?_
        refine q_last hx hb hK hI hW (vp_in_nI (by omega) (by decide)) dL_law_654 (fun H locs hI => ?_)
        rw [nI_clamp (by omega)] at hI
        obtain ⟨M9, hM9, hW9, hI⟩ : ∃ y : qM, (∀ x, x ≠ N1 → y x = M7 x) ∧ y N1 = some (.inl (cs 3, 11, .inr (.inl (vp_updL g Qd.length (askV q))))) ∧ qI D M0 s.heap y N3 H locs := ⟨_, fun x hx => qUp_ne hx, qUp_at _ _ _, hI⟩
        replace oX := oX.same (fun z h1 h2 => hM9 z (by omega))
        replace oQ := oQ.same (fun z h1 h2 => hM9 z (by omega))
        replace oK := oK.same (fun z h1 h2 => hM9 z (by omega))
        replace oT := oT.same (fun z h1 h2 => hM9 z (by omega))
        replace oH := oH.same (fun z h1 h2 => hM9 z (by omega))
        replace oI := oI.same (fun z h1 h2 => hM9 z (by omega))
        replace oN := oN.same (fun z h1 h2 => hM9 z (by omega))
        replace oR := oR.same (fun z h1 h2 => hM9 z (by omega))
        refine lv_goto (tgt := 670) hx hb dL_law_655 (by decide) ?_
        refine lv_iinc (v := nI (k + 1)) (lv' := [(8, .int (nI (k + 1))), (7, .int (nI (Qd.length + 1))), (9, .long (askV q)), (6, .ref N1), (5, .int q0.1.2.2), (3, .long (askV q0)), (2, .ref N), (0, .ref b)]) hx hb dL_law_670 hl (k := 2) rfl (by rw [nI_succ]; rfl) (by decide) rfl (fun ls hl => ?_)
        refine lv_goto (tgt := 609) hx hb dL_law_673 (by decide) ?_
        refine W.widen (k := C + 8) (n := S + 194) (Nat.le_refl _) (Nat.le_refl _) ?_
        exact ih (k + 1) (C + 8) (S + 194) (by omega) (by omega) (by omega) _ (q :: Qd) Q0 (min (cc + 1) 8) (by show min 8 (Qd.length + 1) ≤ _; omega) (by omega) (by show Qd.length + 1 ≤ _; omega) (fun z hz => by rcases List.mem_cons.mp hz with rfl | hz; exact hq; exact hiv z hz) (hwas.push q) _ _ _ _ _ _ _ _ _ _ _ _ (hf2.trans hf1) (hcg.2 hx1).1 (hcg.2 hx1).2 (by omega) hW9 oX oQ oK oT oH oI oN oR hI (lv_sub hl [0, 1, 3, 4, 5, 6, 7] rfl)
      · rw [decide_eq_false hx1]
        refine lv_if_eq (tgt := 658) hx hb dL_law_642 (by decide) (fun h9 => ?_) (fun h9 => absurd rfl h9)
        have hx2 : x1 < 0 := by rw [i_lt]; rw [i_le] at hx1; omega
        have eq1 : q1 = q := (hcg.1 hx2).1
        subst eq1
        refine lv_aload_n hx hb dL_law_658 rfl (lv_at hl 6 rfl) ?_
        refine q_goP (q_runS (As := [.ref N]) (rest := []) hx hb hml hown hg (c_L_asks l D cs oX oQ oT oH oI oN (nan_no hq)) v_L_asks wl_L_172 rfl rfl ⟨Nat.le_of_ble_eq_true rfl, Nat.le_of_ble_eq_true rfl⟩ hI hK hl.1 rfl rfl (Nat.le_of_ble_eq_true rfl) dL_law_659 ⟨by show C + _ ≤ room_1.cells; have hrc := q_rmC; omega, by show S + _ ≤ room_1.slots; have hrs := q_rmS; omega⟩) hI (fun M102 H locs hp hI => ?_)
        have he102 := ask_eq f1 hq A101.2.1 h1 i1 (n := A101.2.2) oN.2.2.1
        generalize s_L_asks f1 q1 A101.2.1 h1 i1 A101.2.2 = A102 at hp he102 ⊢
        obtain ⟨z0, z1, hF⟩ := hp
        rw [he102]
        replace oT := z0
        replace oN := z1
        replace oX := oX.fr hF (fun z h1 h2 hz => by omega)
        replace oQ := oQ.fr hF (fun z h1 h2 hz => by omega)
        replace oK := oK.fr hF (fun z h1 h2 hz => by omega)
        replace oH := oH.fr hF (fun z h1 h2 hz => by omega)
        replace oI := oI.fr hF (fun z h1 h2 hz => by omega)
        replace oR := oR.fr hF (fun z h1 h2 hz => by omega)
        replace hW := (hF N1 (fun hz => by omega)).trans hW
        refine lv_lload hx hb dL_law_662 (lv_at hl 0 rfl) ?_
        refine W.lcmp hx hb dL_law_664 ?_
        rw [lcmp_eq]
        refine lv_if_eq (tgt := 670) hx hb dL_law_665 (by decide) (fun h9 => ?_) (fun h9 => absurd rfl h9)
        refine lv_iinc (v := nI (k + 1)) (lv' := [(8, .int (nI (k + 1))), (9, .long (askV q1)), (7, .int (nI Qd.length)), (6, .ref N1), (5, .int q0.1.2.2), (3, .long (askV q0)), (2, .ref N), (0, .ref b)]) hx hb dL_law_670 hl (k := 1) rfl (by rw [nI_succ]; rfl) (by decide) rfl (fun ls hl => ?_)
        refine lv_goto (tgt := 609) hx hb dL_law_673 (by decide) ?_
        refine W.widen (k := C + 8) (n := S + 194) (Nat.le_refl _) (Nat.le_refl _) ?_
        exact ih (k + 1) (C + 8) (S + 194) (by omega) (by omega) (by omega) g Qd Q0 cc hc1 hc2 (by omega) hiv hwas _ _ _ _ _ _ _ _ _ _ _ _ (hf2.trans hf1) hq (hcg.1 hx2).2 (by omega) hW oX oQ oK oT oH oI oN oR hI (lv_sub hl [0, 2, 3, 4, 5, 6, 7] rfl)
  exact l609 10 0 343 3501 rfl rfl rfl g [] Q0 cc (by show min 8 0 ≤ cc; omega) hc2 (Nat.zero_le _) (fun z hz => absurd hz List.not_mem_nil) (fun j z hz => by simp at hz) f q0 qt h i n rs M N2 H locs ls hf1 hq0 hH hN2 hW oX oQ oK oT oH oI oN oR hI hl
set_option maxHeartbeats 1600000 in
set_option maxRecDepth 20000 in
theorem law_o {p : Program} {l : Launch} {e : Env} {s : State} {m : MethodId} {below : List Frame} {meth : Method} {c : Code} {b L : Nat} {xs : Nat → Int32} {Z : State → Prop} {D : va_G} {cs : qC} (hx : p.tables.exec = Jvm.exec) (hb : c.code = code) (hml : c.maxLocals = 11) (hown : s.vm.findClass RL = some m.cls) (hg : ∀ w ∈ qG, w.before #[Value.ref b] s = true) (hK : qK D cs s) (hP : jX s.heap.size cs s s.heap) (hL31 : L < 2 ^ 31) (hSc : qSc b L xs (qGe0 s.heap.size) s s.heap)
    {M0 : qM} (hd : qDom s.heap.size M0 s.heap.size)
    {N : Nat} (K : ∀ (M : qM) (N : Nat) (H : Heap) (locs : List Loc) (ls : Array Slot), qI D M0 s.heap M N H locs → W p l e room_1 s m #[Value.ref b] below meth c H locs 423 5441 Z (F0 m 795 ls [.int 1]))
    {M : qM} {H : Heap} {locs : List Loc} {ls : Array Slot} (hI : qI D M0 s.heap M N H locs) (hl : lv_has ls 11 [(0, .ref b)]) : W p l e room_1 s m #[Value.ref b] below meth c H locs 167 1648 Z (F0 m 529 ls []) := by
  refine q_new hx hb 10 hg in_X10 tyX10_ok hown wx_cX wn_X10 wi_X10 hK hI rfl [.null, .null, .null, .null, .null, .null, .null, .int 0, .int 0] (fun j hj => by match j, hj with | 0, _ => rfl | 1, _ => rfl | 2, _ => rfl | 3, _ => rfl | 4, _ => rfl | 5, _ => rfl | 6, _ => rfl | 7, _ => rfl | 8, _ => rfl) (Nat.le_of_ble_eq_true rfl) (Nat.le_of_ble_eq_true rfl) dL_law_529 (fun H hI => ?_)
  refine lv_dup hx hb dL_law_532 rfl ?_
  refine q_goNc (q_runI (As := []) (rest := [.ref N]) hx hb hml hown hg (c_X10_init l D cs (qUp_at _ _ _)) v_X10_init wl_L_193 rfl rfl ⟨Nat.le_of_ble_eq_true rfl, Nat.le_of_ble_eq_true rfl⟩ hI hK hl.1 rfl rfl (Nat.le_of_ble_eq_true rfl) dL_law_533 ⟨Nat.le_of_ble_eq_true rfl, Nat.le_of_ble_eq_true rfl⟩) hI (fun M1 H locs hp hI => ?_)
  obtain ⟨⟨oX, oQ, oK, oT, oH, oI, oN, oR⟩, hF⟩ := hp
  refine lv_astore_n (lv' := [(2, .ref N), (0, .ref b)]) hx hb dL_law_536 rfl hl (by decide) rfl (fun ls hl => ?_)
  refine lv_aload_n hx hb dL_law_537 rfl (lv_at hl 0 rfl) ?_
  refine lv_aload_n hx hb dL_law_538 rfl (lv_at hl 1 rfl) ?_
  refine q_goP (q_runSS (As := [.ref N, .ref b]) (rest := []) hx hb hml hown hg (c_L_makes l D cs (hI.dom rfl hd) hL31 oX oQ oH oR) v_L_makes wl_L_203 rfl rfl ⟨Nat.le_of_ble_eq_true rfl, Nat.le_of_ble_eq_true rfl⟩ hI hK (hSc.kept (hI.zS rfl hd).2.1) hl.1 rfl rfl (Nat.le_of_ble_eq_true rfl) dL_law_539 ⟨Nat.le_of_ble_eq_true rfl, Nat.le_of_ble_eq_true rfl⟩) hI (fun M2 H locs hp hI => ?_)
  obtain ⟨cn, hn4, hn16, hmk⟩ := makes_ok (-4, 0) L xs r00
  generalize s_L_makes (-4, 0) L xs qQ0 qH0 r00 = R at hmk hp ⊢
  obtain ⟨z1, z2, z3, hF⟩ := hp
  obtain ⟨hm1, hq, hcn, hsl, Q, cq, hH⟩ := hmk
  rw [hm1]
  replace oQ := z1
  replace oH := z2
  replace oR := z3
  replace oX := oX.fr hF (fun z h1 h2 hz => by omega)
  replace oK := oK.fr hF (fun z h1 h2 hz => by omega)
  replace oT := oT.fr hF (fun z h1 h2 hz => by omega)
  replace oI := oI.fr hF (fun z h1 h2 hz => by omega)
  replace oN := oN.fr hF (fun z h1 h2 hz => by omega)
  refine lv_if_ne (tgt := 547) hx hb dL_law_542 (by decide) (fun h9 => ?_) (fun h9 => absurd h9 qb1)
  refine lv_aload_n hx hb dL_law_547 rfl (lv_at hl 0 rfl) ?_
  refine q_goP (q_runS (As := [.ref N]) (rest := []) hx hb hml hown hg (c_L_asks l D cs oX oQ oT oH oI oN (nan_no hq)) v_L_asks wl_L_172 rfl rfl ⟨Nat.le_of_ble_eq_true rfl, Nat.le_of_ble_eq_true rfl⟩ hI hK hl.1 rfl rfl (Nat.le_of_ble_eq_true rfl) dL_law_548 ⟨Nat.le_of_ble_eq_true rfl, Nat.le_of_ble_eq_true rfl⟩) hI (fun M401 H locs hp hI => ?_)
  have he401 := ask_eq (-4, 0) hq qQ0 R.2.2.1 qI0 (n := (List.replicate 54 0, 0)) oN.2.2.1
  generalize s_L_asks (-4, 0) R.2.1 qQ0 R.2.2.1 qI0 (List.replicate 54 0, 0) = A401 at hp he401 ⊢
  obtain ⟨z0, z1, hF⟩ := hp
  rw [he401]
  replace oT := z0
  replace oN := z1
  replace oX := oX.fr hF (fun z h1 h2 hz => by omega)
  replace oQ := oQ.fr hF (fun z h1 h2 hz => by omega)
  replace oK := oK.fr hF (fun z h1 h2 hz => by omega)
  replace oH := oH.fr hF (fun z h1 h2 hz => by omega)
  replace oI := oI.fr hF (fun z h1 h2 hz => by omega)
  replace oR := oR.fr hF (fun z h1 h2 hz => by omega)
  refine lv_lstore_n (lv' := [(3, .long (askV R.2.1)), (2, .ref N), (0, .ref b)]) hx hb dL_law_551 rfl hl (by decide) rfl (fun ls hl => ?_)
  refine lv_aload_n hx hb dL_law_552 rfl (lv_at hl 1 rfl) ?_
  refine q_goP (q_runS (As := [.ref N]) (rest := []) hx hb hml hown hg (c_L_asks l D cs oX oQ oT oH oI oN (nan_no hq)) v_L_asks wl_L_172 rfl rfl ⟨Nat.le_of_ble_eq_true rfl, Nat.le_of_ble_eq_true rfl⟩ hI hK hl.1 rfl rfl (Nat.le_of_ble_eq_true rfl) dL_law_553 ⟨Nat.le_of_ble_eq_true rfl, Nat.le_of_ble_eq_true rfl⟩) hI (fun M402 H locs hp hI => ?_)
  have he402 := ask_eq (-4, 0) hq A401.2.1 R.2.2.1 qI0 (n := A401.2.2) oN.2.2.1
  generalize s_L_asks (-4, 0) R.2.1 A401.2.1 R.2.2.1 qI0 A401.2.2 = A402 at hp he402 ⊢
  obtain ⟨z0, z1, hF⟩ := hp
  rw [he402]
  replace oT := z0
  replace oN := z1
  replace oX := oX.fr hF (fun z h1 h2 hz => by omega)
  replace oQ := oQ.fr hF (fun z h1 h2 hz => by omega)
  replace oK := oK.fr hF (fun z h1 h2 hz => by omega)
  replace oH := oH.fr hF (fun z h1 h2 hz => by omega)
  replace oI := oI.fr hF (fun z h1 h2 hz => by omega)
  replace oR := oR.fr hF (fun z h1 h2 hz => by omega)
  refine lv_lload_n hx hb dL_law_556 rfl (lv_at hl 0 rfl) ?_
  refine W.lcmp hx hb dL_law_557 ?_
  rw [lcmp_eq]
  refine lv_if_ne (tgt := 568) hx hb dL_law_558 (by decide) (fun h9 => absurd rfl h9) (fun h9 => ?_)
  refine lv_aload_n hx hb dL_law_561 rfl (lv_at hl 1 rfl) ?_
  refine q_go (f_runS (As := [.ref N]) (rest := []) hx hb hml hown hg (c_L_refused l D cs (hI.dom rfl hd) (Nat.le_refl _) oX oQ oT oH oI oN oR hq hcn hn4 hn16 hsl hH) v_L_refused wl_L_207 rfl rfl ⟨Nat.le_of_ble_eq_true rfl, Nat.le_of_ble_eq_true rfl⟩ hI hK jX.sw (hI.jx rfl hd hP) hl.1 rfl rfl (Nat.le_of_ble_eq_true rfl) dL_law_562 ⟨Nat.le_of_ble_eq_true rfl, Nat.le_of_ble_eq_true rfl⟩) hI (fun r M5 N1 H locs hp hI => ?_)
  obtain ⟨rfl, f1, qt1, h1, i1, n1, rs1, hH1, hf1, z0, z1, z2, z3, z4, z5, z6, hF, hNN⟩ := hp
  replace oX := z0
  replace oQ := z1
  replace oT := z2
  replace oH := z3
  replace oI := z4
  replace oN := z5
  replace oR := z6
  replace oK := oK.fr hF (fun z h1 h2 hz => by omega)
  refine lv_if_ne (tgt := 570) hx hb dL_law_565 (by decide) (fun h9 => ?_) (fun h9 => absurd h9 (by decide))
  refine lv_aload_n hx hb dL_law_570 rfl (lv_at hl 1 rfl) ?_
  refine q_goP (q_runV (As := []) (rest := []) hx hb hml hown hg (c_X10_save l D cs oX oQ oK) v_X10_save wl_L_200 rfl rfl ⟨Nat.le_of_ble_eq_true rfl, Nat.le_of_ble_eq_true rfl⟩ hI hK 10 oX rfl hl.1 rfl rfl (Nat.le_of_ble_eq_true rfl) dL_law_571 ⟨Nat.le_of_ble_eq_true rfl, Nat.le_of_ble_eq_true rfl⟩) hI (fun M403 H locs hp hI => ?_)
  rw [e_save] at hp ⊢
  obtain ⟨z0, z1, hF⟩ := hp
  replace oX : qLX cs M403 N (f1.1, 1) := z0
  replace oK : qLQ cs M403 (N + 14) R.2.1 := z1
  replace oQ := oQ.fr hF (fun z h1 h2 hz => by omega)
  replace oT := oT.fr hF (fun z h1 h2 hz => by omega)
  replace oH := oH.fr hF (fun z h1 h2 hz => by omega)
  replace oI := oI.fr hF (fun z h1 h2 hz => by omega)
  replace oN := oN.fr hF (fun z h1 h2 hz => by omega)
  replace oR := oR.fr hF (fun z h1 h2 hz => by omega)
  refine lv_istore (lv' := [(5, .int R.2.1.1.2.2), (3, .long (askV R.2.1)), (2, .ref N), (0, .ref b)]) hx hb dL_law_574 hl (by decide) rfl (fun ls hl => ?_)
  refine lv_iload hx hb dL_law_576 (lv_at hl 0 rfl) ?_
  refine lv_aload_n hx hb dL_law_578 rfl (lv_at hl 2 rfl) ?_
  refine lv_iconst (v := 0) hx hb dL_law_579 (by decide) ?_
  refine q_goR (q_runV (As := [.int 0]) (rest := [.int R.2.1.1.2.2]) hx hb hml hown hg (c_X10_account l D cs oX oQ oH oI 0) v_X10_account wl_L_81 rfl rfl ⟨Nat.le_of_ble_eq_true rfl, Nat.le_of_ble_eq_true rfl⟩ hI hK 10 oX rfl hl.1 rfl rfl (Nat.le_of_ble_eq_true rfl) dL_law_580 ⟨Nat.le_of_ble_eq_true rfl, Nat.le_of_ble_eq_true rfl⟩) hI (fun H locs hI => ?_)
  rw [acc0]
  refine lv_icmp_ne (tgt := 595) hx hb dL_law_583 (by decide) (fun h9 => absurd rfl h9) (fun h9 => ?_)
  refine lv_aload_n hx hb dL_law_586 rfl (lv_at hl 2 rfl) ?_
  refine q_goP (q_runS (As := [.ref N]) (rest := []) hx hb hml hown hg (c_L_asks l D cs oX oQ oT oH oI oN (nan_no hq)) v_L_asks wl_L_172 rfl rfl ⟨Nat.le_of_ble_eq_true rfl, Nat.le_of_ble_eq_true rfl⟩ hI hK hl.1 rfl rfl (Nat.le_of_ble_eq_true rfl) dL_law_587 ⟨Nat.le_of_ble_eq_true rfl, Nat.le_of_ble_eq_true rfl⟩) hI (fun M404 H locs hp hI => ?_)
  have he404 := ask_eq (f1.1, 1) hq qt1 h1 i1 (n := n1) oN.2.2.1
  generalize s_L_asks (f1.1, 1) R.2.1 qt1 h1 i1 n1 = A404 at hp he404 ⊢
  obtain ⟨z0, z1, hF⟩ := hp
  rw [he404]
  replace oT := z0
  replace oN := z1
  replace oX := oX.fr hF (fun z h1 h2 hz => by omega)
  replace oQ := oQ.fr hF (fun z h1 h2 hz => by omega)
  replace oK := oK.fr hF (fun z h1 h2 hz => by omega)
  replace oH := oH.fr hF (fun z h1 h2 hz => by omega)
  replace oI := oI.fr hF (fun z h1 h2 hz => by omega)
  replace oR := oR.fr hF (fun z h1 h2 hz => by omega)
  refine lv_lload_n hx hb dL_law_590 rfl (lv_at hl 1 rfl) ?_
  refine W.lcmp hx hb dL_law_591 ?_
  rw [lcmp_eq]
  refine lv_if_eq (tgt := 597) hx hb dL_law_592 (by decide) (fun h9 => ?_) (fun h9 => absurd rfl h9)
  refine lv_bipush (v := 11) hx hb dL_law_597 (by decide) ?_
  refine q_newL hx hb hg hK hI 11 (by decide) (by decide) (Nat.le_of_ble_eq_true rfl) (Nat.le_of_ble_eq_true rfl) (Nat.le_of_ble_eq_true rfl) dL_law_599 (fun H hI => ?_)
  obtain ⟨M9, hM9, hW9, hI⟩ : ∃ y : qM, (∀ x, x ≠ N1 → y x = M404 x) ∧ y N1 = some (.inl (cs 3, 11, .inr (.inl (fun _ => 0)))) ∧ qI D M0 s.heap y (N1 + 1) H locs := ⟨_, fun x hx => qUp_ne hx, qUp_at _ _ _, hI⟩
  replace oX := oX.same (fun z h1 h2 => hM9 z (by omega))
  replace oQ := oQ.same (fun z h1 h2 => hM9 z (by omega))
  replace oK := oK.same (fun z h1 h2 => hM9 z (by omega))
  replace oT := oT.same (fun z h1 h2 => hM9 z (by omega))
  replace oH := oH.same (fun z h1 h2 => hM9 z (by omega))
  replace oI := oI.same (fun z h1 h2 => hM9 z (by omega))
  replace oN := oN.same (fun z h1 h2 => hM9 z (by omega))
  replace oR := oR.same (fun z h1 h2 => hM9 z (by omega))
  refine lv_astore (lv' := [(6, .ref N1), (5, .int R.2.1.1.2.2), (3, .long (askV R.2.1)), (2, .ref N), (0, .ref b)]) hx hb dL_law_601 hl (by decide) rfl (fun ls hl => ?_)
  refine lv_iconst (v := 0) hx hb dL_law_603 (by decide) ?_
  refine lv_istore (lv' := [(7, .int 0), (6, .ref N1), (5, .int R.2.1.1.2.2), (3, .long (askV R.2.1)), (2, .ref N), (0, .ref b)]) hx hb dL_law_604 hl (by decide) rfl (fun ls hl => ?_)
  refine lv_iconst (v := 0) hx hb dL_law_606 (by decide) ?_
  refine lv_istore (lv' := [(8, .int 0), (7, .int 0), (6, .ref N1), (5, .int R.2.1.1.2.2), (3, .long (askV R.2.1)), (2, .ref N), (0, .ref b)]) hx hb dL_law_607 hl (by decide) rfl (fun ls hl => ?_)
  have hc8 : cq ≤ 8 := by obtain ⟨nx, a1, a2, -⟩ := hH1; exact a2
  exact law_u hx hb hml hown hg hK hP hL31 hSc hd hq hNN K (fun _ => 0) Q cq hc8 _ _ _ _ _ _ _ _ _ _ _ rfl hH1 (Nat.lt_succ_self _) hW9 oX oQ oK oT oH oI oN oR hI (lv_sub hl [0, 1, 2, 3, 4, 5, 6] rfl)
