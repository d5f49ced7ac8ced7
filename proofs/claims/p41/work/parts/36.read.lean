/-! READ -/
def s_X10_read_L (f : Int32 × Int32) (h : qHV) (i : qIV) : Nat → Int32 → qQV → qRV → (Int32 × (Int32 × Int32) × qQV × qHV × qIV × qRV)
  | 0, _, q, rs => (0, f, q, h, i, rs)
  | n + 1, x, q, rs => if i.2.2.2.2.2.1 ≤ x then (i.2.2.2.2.2.1, f, q, s_X2_keepDraft h, i, rs) else if 0 ≤ (s_X10_carryOut q i rs x).1 then s_X10_read_L f h i n (x + 1) (s_X10_carryOut q i rs x).2.1 (s_X10_carryOut q i rs x).2.2 else if (s_X10_carryOut q i rs x).1 = (-3) then ((s_X6_refuseBefore (s_X10_carryOut q i rs x).2.2 7 x).1, f, s_X2_dropDraft h (s_X10_carryOut q i rs x).2.1, h, i, (s_X6_refuseBefore (s_X10_carryOut q i rs x).2.2 7 x).2) else ((s_X6_refuse (s_X10_carryOut q i rs x).2.2 8 x).1, f, s_X2_dropDraft h (s_X10_carryOut q i rs x).2.1, h, i, (s_X6_refuse (s_X10_carryOut q i rs x).2.2 8 x).2)
def s_X10_read1 (f : Int32 × Int32) (q : qQV) (h : qHV) (b : Bool) (i : qIV) (rs : qRV) : (Int32 × (Int32 × Int32) × qQV × qHV × qIV × qRV) :=
  if qbi b = 0 then ((-2), (i.2.2.2.2.2.2, f.2), q, h, i, rs) else s_X10_read_L f (s_X2_draft h q) i (i.2.2.2.2.2.1.toInt.toNat + 1) 0 q rs
def s_X10_read (f : Int32 × Int32) (q : qQV) (h : qHV) (i : qIV) (rs : qRV) : (Int32 × (Int32 × Int32) × qQV × qHV × qIV × qRV) := s_X10_read1 f q h (s_X3_takeApart i).1 (s_X3_makeEmpty (s_X3_takeApart i).2) rs
set_option maxHeartbeats 8000000 in
theorem c_X10_read (l : Launch) (D : va_G) (cs : qC) {N00 : Nat} {M0 : qM} {N a : Nat} {f : (Int32 × Int32)} {q : qQV} {h : qHV} {i : qIV} {rs : qRV} (hd : qDom N00 M0 N) (hL0 : qLX cs M0 a f) (hL1 : qLQ cs M0 (a + 1) q) (hL2 : qLH cs M0 (a + 40) h) (hL3 : qLI cs M0 (a + 159) i) (hL4 : qLR cs M0 (a + 166) rs) :
    qMetZ l D cs N00 yX10_read (qws yX10_read cX10_read 4 (some .int)) (qRm 9 320) M0 N [.ref a] (qMod N (some (.int (s_X10_read f q h i rs).1)) (fun M' => qLX cs M' a (s_X10_read f q h i rs).2.1 ∧ qLQ cs M' (a + 1) (s_X10_read f q h i rs).2.2.1 ∧ qLH cs M' (a + 40) (s_X10_read f q h i rs).2.2.2.1 ∧ qLI cs M' (a + 159) (s_X10_read f q h i rs).2.2.2.2.1 ∧ qLR cs M' (a + 166) (s_X10_read f q h i rs).2.2.2.2.2 ∧ qFr (fun q => qIn a 1 q ∨ qIn (a + 1) 13 q ∨ qIn (a + 40) 119 q ∨ qIn (a + 159) 5 q ∨ qIn (a + 166) 1 q) M0 M')) 0 0 := by
  obtain ⟨R, hR⟩ : ∃ R, s_X10_read f q h i rs = R := ⟨_, rfl⟩
  rw [hR]
  rw [s_X10_read] at hR
  refine z_head (by decide +kernel) ?_ (Nat.le_of_ble_eq_true rfl)
  intro p e s m below meth c ls hx hb hret hlk hml hown hnm hg hK hN hZ hI hl
  have hl : lv_has ls 4 [(0, .ref a)] := hl
  have hS : qFr (fun q => qIn a 1 q ∨ qIn (a + 1) 13 q ∨ qIn (a + 40) 119 q ∨ qIn (a + 159) 5 q ∨ qIn (a + 166) 1 q) M0 M0 := qFr.rf
  refine lv_aload_n hx hb dX10_read_0 rfl (lv_at hl 0 rfl) ?_
  refine q_get hx hb hg in_X10 hown hK hI hL0 rfl 4 (by decide) (hg _ wf_X10_32) (fun _ h9 => h9) rfl dX10_read_1 ?_
  refine q_goP (q_runVZ (As := []) (rest := []) hx hb hml hown hg (c_X3_takeApart l D cs hd hL3) v_X3_takeApart wl_X10_112 rfl rfl ⟨Nat.le_of_ble_eq_true rfl, Nat.le_of_ble_eq_true rfl⟩ hI hK (hI.z hN hd hZ) 4 hL3.1 rfl hl.1 rfl rfl (Nat.le_of_ble_eq_true rfl) dX10_read_4 ⟨Nat.le_of_ble_eq_true rfl, Nat.le_of_ble_eq_true rfl⟩) hI (fun M H locs hp hI => ?_)
  obtain ⟨hL3, hF⟩ := hp
  generalize heg : s_X3_takeApart i = g at hL3 hR ⊢
  have hL0 := hL0.fr hF (fun q h1 h2 hq => by omega)
  have hL1 := hL1.fr hF (fun q h1 h2 hq => by omega)
  have hL2 := hL2.fr hF (fun q h1 h2 hq => by omega)
  have hL4 := hL4.fr hF (fun q h1 h2 hq => by omega)
  have hS := hS.tr hF (fun q hq => by omega)
  refine lv_istore_n (lv' := [(1, .int (qbi g.1)), (0, .ref a)]) hx hb dX10_read_7 rfl hl (by decide) rfl (fun ls hl => ?_)
  refine lv_aload_n hx hb dX10_read_8 rfl (lv_at hl 1 rfl) ?_
  refine q_get hx hb hg in_X10 hown hK hI hL0 rfl 4 (by decide) (hg _ wf_X10_32) (fun _ h9 => h9) rfl dX10_read_9 ?_
  refine q_goN (q_runV (As := []) (rest := []) hx hb hml hown hg (c_X3_makeEmpty l D cs hL3) v_X3_makeEmpty wl_X10_116 rfl rfl ⟨Nat.le_of_ble_eq_true rfl, Nat.le_of_ble_eq_true rfl⟩ hI hK 4 hL3.1 rfl hl.1 rfl rfl (Nat.le_of_ble_eq_true rfl) dX10_read_12 ⟨Nat.le_of_ble_eq_true rfl, Nat.le_of_ble_eq_true rfl⟩) hI (fun M H locs hp hI => ?_)
  obtain ⟨hL3, hF⟩ := hp
  generalize hej : s_X3_makeEmpty g.2 = j at hL3 hR
  have hL0 := hL0.fr hF (fun q h1 h2 hq => by omega)
  have hL1 := hL1.fr hF (fun q h1 h2 hq => by omega)
  have hL2 := hL2.fr hF (fun q h1 h2 hq => by omega)
  have hL4 := hL4.fr hF (fun q h1 h2 hq => by omega)
  have hS := hS.tr hF (fun q hq => by omega)
  rw [s_X10_read1] at hR
  refine lv_iload_n hx hb dX10_read_15 rfl (lv_at hl 0 rfl) ?_
  refine lv_if_ne (tgt := 33) hx hb dX10_read_16 (by decide) (fun c1 => ?_) (fun c1 => ?_)
  · rw [if_neg c1] at hR
    refine lv_aload_n hx hb dX10_read_33 rfl (lv_at hl 1 rfl) ?_
    refine q_get hx hb hg in_X10 hown hK hI hL0 rfl 3 (by decide) (hg _ wf_X10_25) (fun _ h9 => h9) rfl dX10_read_34 ?_
    refine lv_aload_n hx hb dX10_read_37 rfl (lv_at hl 1 rfl) ?_
    refine q_get hx hb hg in_X10 hown hK hI hL0 rfl 0 (by decide) (hg _ wf_X10_10) (fun _ h9 => h9) rfl dX10_read_38 ?_
    refine q_goN (q_runV (As := [.ref (a + 1)]) (rest := []) hx hb hml hown hg (c_X2_draft l D cs hL2 hL1 (by omega)) v_X2_draft wl_X10_77 rfl rfl ⟨Nat.le_of_ble_eq_true rfl, Nat.le_of_ble_eq_true rfl⟩ hI hK 3 hL2.1 rfl hl.1 rfl rfl (Nat.le_of_ble_eq_true rfl) dX10_read_41 ⟨Nat.le_of_ble_eq_true rfl, Nat.le_of_ble_eq_true rfl⟩) hI (fun M H locs hp hI => ?_)
    obtain ⟨hL2, hF⟩ := hp
    generalize heh : s_X2_draft h q = h1 at hL2 hR
    have hL0 := hL0.fr hF (fun q h1 h2 hq => by omega)
    have hL1 := hL1.fr hF (fun q h1 h2 hq => by omega)
    have hL3 := hL3.fr hF (fun q h1 h2 hq => by omega)
    have hL4 := hL4.fr hF (fun q h1 h2 hq => by omega)
    have hS := hS.tr hF (fun q hq => by omega)
    refine lv_iconst (v := 0) hx hb dX10_read_44 (by decide) ?_
    refine lv_istore_n (lv' := [(2, .int 0), (0, .ref a)]) hx hb dX10_read_45 rfl (lv_sub hl [1] rfl) (by decide) rfl (fun ls hl => ?_)
    have loop : ∀ (n : Nat) (x : Int32) (q : qQV) (rs : qRV), qmu j.2.2.2.2.2.1 x < n → s_X10_read_L f h1 j n x q rs = R → ∀ (M : qM) (H : Heap) (locs : List Loc) (ls : Array Slot), qLX cs M a f → qLQ cs M (a + 1) q → qLH cs M (a + 40) h1 → qLI cs M (a + 159) j → qLR cs M (a + 166) rs → qFr (fun q => qIn a 1 q ∨ qIn (a + 1) 13 q ∨ qIn (a + 40) 119 q ∨ qIn (a + 159) 5 q ∨ qIn (a + 166) 1 q) M0 M → qI D M0 s.heap M N H locs → lv_has ls 4 [(2, .int x), (0, .ref a)] →
        W p l e (qRm 9 320) s m [Value.ref a].toArray below meth c H locs 0 0 (MQ below (qQ D M0 N (qMod N (some (.int R.1)) (fun M' => qLX cs M' a R.2.1 ∧ qLQ cs M' (a + 1) R.2.2.1 ∧ qLH cs M' (a + 40) R.2.2.2.1 ∧ qLI cs M' (a + 159) R.2.2.2.2.1 ∧ qLR cs M' (a + 166) R.2.2.2.2.2 ∧ qFr (fun q => qIn a 1 q ∨ qIn (a + 1) 13 q ∨ qIn (a + 40) 119 q ∨ qIn (a + 159) 5 q ∨ qIn (a + 166) 1 q) M0 M'))) [Value.ref a].toArray s 0 0 (qA M0 N)) (F0 m 46 ls []) := by
      intro n
      induction n with
      | zero => intro x q rs hm; exact absurd hm (Nat.not_lt_zero _)
      | succ n ih =>
        intro x q rs hm hR M H locs ls hL0 hL1 hL2 hL3 hL4 hS hI hl
        rw [s_X10_read_L] at hR
        refine lv_iload_n hx hb dX10_read_46 rfl (lv_at hl 0 rfl) ?_
        refine lv_aload_n hx hb dX10_read_47 rfl (lv_at hl 1 rfl) ?_
        refine q_get hx hb hg in_X10 hown hK hI hL0 rfl 4 (by decide) (hg _ wf_X10_32) (fun _ h9 => h9) rfl dX10_read_48 ?_
        refine q_getN hx hb hg in_X3 hown hK hI hL3.1 rfl 5 (by decide) (hK.2 _ (List.mem_of_getElem? (i := 23) rfl)) (fun _ h9 => h9) rfl dX10_read_51 ?_
        refine lv_icmp_ge (tgt := 114) hx hb dX10_read_54 (by decide) (fun c2 => ?_) (fun c2 => ?_)
        · rw [if_pos c2] at hR
          refine lv_aload_n hx hb dX10_read_114 rfl (lv_at hl 1 rfl) ?_
          refine q_get hx hb hg in_X10 hown hK hI hL0 rfl 3 (by decide) (hg _ wf_X10_25) (fun _ h9 => h9) rfl dX10_read_115 ?_
          refine q_goN (q_runV (As := []) (rest := []) hx hb hml hown hg (c_X2_keepDraft l D cs hL2) v_X2_keepDraft wl_X10_136 rfl rfl ⟨Nat.le_of_ble_eq_true rfl, Nat.le_of_ble_eq_true rfl⟩ hI hK 3 hL2.1 rfl hl.1 rfl rfl (Nat.le_of_ble_eq_true rfl) dX10_read_118 ⟨Nat.le_of_ble_eq_true rfl, Nat.le_of_ble_eq_true rfl⟩) hI (fun M H locs hp hI => ?_)
          obtain ⟨hL2, hF⟩ := hp
          generalize hek : s_X2_keepDraft h1 = h2 at hL2 hR
          have hL0 := hL0.fr hF (fun q h1 h2 hq => by omega)
          have hL1 := hL1.fr hF (fun q h1 h2 hq => by omega)
          have hL3 := hL3.fr hF (fun q h1 h2 hq => by omega)
          have hL4 := hL4.fr hF (fun q h1 h2 hq => by omega)
          have hS := hS.tr hF (fun q hq => by omega)
          refine lv_aload_n hx hb dX10_read_121 rfl (lv_at hl 1 rfl) ?_
          refine q_get hx hb hg in_X10 hown hK hI hL0 rfl 4 (by decide) (hg _ wf_X10_32) (fun _ h9 => h9) rfl dX10_read_122 ?_
          refine q_getN hx hb hg in_X3 hown hK hI hL3.1 rfl 5 (by decide) (hK.2 _ (List.mem_of_getElem? (i := 23) rfl)) (fun _ h9 => h9) rfl dX10_read_125 ?_
          exact q_iret hx hb hret hlk hN hI (by subst hR; exact ⟨rfl, ⟨hL0, hL1, hL2, hL3, hL4, hS⟩, rfl⟩) dX10_read_128
        · rw [if_neg c2] at hR
          refine lv_aload_n hx hb dX10_read_57 rfl (lv_at hl 1 rfl) ?_
          refine lv_iload_n hx hb dX10_read_58 rfl (lv_at hl 0 rfl) ?_
          refine q_goP (q_runVZ (As := [.int x]) (rest := []) hx hb hml hown hg (c_X10_carryOut l D cs (hI.dom hN hd) hL0 hL1 hL3 hL4 x) v_X10_carryOut wl_X10_123 rfl rfl ⟨Nat.le_of_ble_eq_true rfl, Nat.le_of_ble_eq_true rfl⟩ hI hK (hI.z hN hd hZ) 10 hL0 rfl hl.1 rfl rfl (Nat.le_of_ble_eq_true rfl) dX10_read_59 ⟨Nat.le_of_ble_eq_true rfl, Nat.le_of_ble_eq_true rfl⟩) hI (fun M H locs hp hI => ?_)
          obtain ⟨hL1, hL4, hF⟩ := hp
          generalize heg4 : s_X10_carryOut q j rs x = g4 at hL1 hL4 hR ⊢
          have hL0 := hL0.fr hF (fun q h1 h2 hq => by omega)
          have hL2 := hL2.fr hF (fun q h1 h2 hq => by omega)
          have hL3 := hL3.fr hF (fun q h1 h2 hq => by omega)
          have hS := hS.tr hF (fun q hq => by omega)
          refine lv_istore_n (lv' := [(3, .int g4.1), (2, .int x), (0, .ref a)]) hx hb dX10_read_62 rfl hl (by decide) rfl (fun ls hl => ?_)
          refine lv_iload_n hx hb dX10_read_63 rfl (lv_at hl 0 rfl) ?_
          refine lv_if_ge (tgt := 108) hx hb dX10_read_64 (by decide) (fun c3 => ?_) (fun c3 => ?_)
          · rw [if_pos c3] at hR
            refine lv_iinc (v := x + 1) (lv' := [(2, .int (x + 1)), (3, .int g4.1), (0, .ref a)]) hx hb dX10_read_108 hl (k := 1) rfl rfl (by decide) rfl (fun ls hl => ?_)
            refine lv_goto (tgt := 46) hx hb dX10_read_111 (by decide) ?_
            exact ih (x + 1) _ _ (q_mu c2 hm) hR M H locs ls hL0 hL1 hL2 hL3 hL4 hS hI (lv_sub hl [0, 2] rfl)
          · rw [if_neg c3] at hR
            refine lv_aload_n hx hb dX10_read_67 rfl (lv_at hl 2 rfl) ?_
            refine q_get hx hb hg in_X10 hown hK hI hL0 rfl 3 (by decide) (hg _ wf_X10_25) (fun _ h9 => h9) rfl dX10_read_68 ?_
            refine lv_aload_n hx hb dX10_read_71 rfl (lv_at hl 2 rfl) ?_
            refine q_get hx hb hg in_X10 hown hK hI hL0 rfl 0 (by decide) (hg _ wf_X10_10) (fun _ h9 => h9) rfl dX10_read_72 ?_
            refine q_goN (q_runV (As := [.ref (a + 1)]) (rest := []) hx hb hml hown hg (c_X2_dropDraft l D cs hL2 hL1 (by omega)) v_X2_dropDraft wl_X10_126 rfl rfl ⟨Nat.le_of_ble_eq_true rfl, Nat.le_of_ble_eq_true rfl⟩ hI hK 3 hL2.1 rfl hl.1 rfl rfl (Nat.le_of_ble_eq_true rfl) dX10_read_75 ⟨Nat.le_of_ble_eq_true rfl, Nat.le_of_ble_eq_true rfl⟩) hI (fun M H locs hp hI => ?_)
            obtain ⟨hL1, hF⟩ := hp
            generalize hek : s_X2_dropDraft h1 g4.2.1 = q2 at hL1 hR
            have hL0 := hL0.fr hF (fun q h1 h2 hq => by omega)
            have hL2 := hL2.fr hF (fun q h1 h2 hq => by omega)
            have hL3 := hL3.fr hF (fun q h1 h2 hq => by omega)
            have hL4 := hL4.fr hF (fun q h1 h2 hq => by omega)
            have hS := hS.tr hF (fun q hq => by omega)
            refine lv_iload_n hx hb dX10_read_78 rfl (lv_at hl 0 rfl) ?_
            refine lv_bipush (v := (-3)) hx hb dX10_read_79 (by decide) ?_
            refine lv_icmp_ne (tgt := 97) hx hb dX10_read_81 (by decide) (fun c4 => ?_) (fun c4 => ?_)
            · rw [if_neg c4] at hR
              refine lv_aload_n hx hb dX10_read_97 rfl (lv_at hl 2 rfl) ?_
              refine q_get hx hb hg in_X10 hown hK hI hL0 rfl 6 (by decide) (hg _ wf_X10_46) (fun _ h9 => h9) rfl dX10_read_98 ?_
              refine lv_bipush (v := 8) hx hb dX10_read_101 (by decide) ?_
              refine lv_iload_n hx hb dX10_read_103 rfl (lv_at hl 1 rfl) ?_
              refine q_goP (q_runV (As := [.int 8, .int x]) (rest := []) hx hb hml hown hg (c_X6_refuse l D cs hL4 8 x) v_X6_refuse wl_X10_133 rfl rfl ⟨Nat.le_of_ble_eq_true rfl, Nat.le_of_ble_eq_true rfl⟩ hI hK 7 hL4 rfl hl.1 rfl rfl (Nat.le_of_ble_eq_true rfl) dX10_read_104 ⟨Nat.le_of_ble_eq_true rfl, Nat.le_of_ble_eq_true rfl⟩) hI (fun M H locs hp hI => ?_)
              obtain ⟨hL4, hF⟩ := hp
              generalize heg5 : s_X6_refuse g4.2.2 8 x = g5 at hL4 hR ⊢
              have hL0 := hL0.fr hF (fun q h1 h2 hq => by omega)
              have hL1 := hL1.fr hF (fun q h1 h2 hq => by omega)
              have hL2 := hL2.fr hF (fun q h1 h2 hq => by omega)
              have hL3 := hL3.fr hF (fun q h1 h2 hq => by omega)
              have hS := hS.tr hF (fun q hq => by omega)
              exact q_iret hx hb hret hlk hN hI (by subst hR; exact ⟨rfl, ⟨hL0, hL1, hL2, hL3, hL4, hS⟩, rfl⟩) dX10_read_107
            · rw [if_pos c4] at hR
              refine lv_aload_n hx hb dX10_read_84 rfl (lv_at hl 2 rfl) ?_
              refine q_get hx hb hg in_X10 hown hK hI hL0 rfl 6 (by decide) (hg _ wf_X10_46) (fun _ h9 => h9) rfl dX10_read_85 ?_
              refine lv_bipush (v := 7) hx hb dX10_read_88 (by decide) ?_
              refine lv_iload_n hx hb dX10_read_90 rfl (lv_at hl 1 rfl) ?_
              refine q_goP (q_runV (As := [.int 7, .int x]) (rest := []) hx hb hml hown hg (c_X6_refuseBefore l D cs hL4 7 x) v_X6_refuseBefore wl_X10_129 rfl rfl ⟨Nat.le_of_ble_eq_true rfl, Nat.le_of_ble_eq_true rfl⟩ hI hK 7 hL4 rfl hl.1 rfl rfl (Nat.le_of_ble_eq_true rfl) dX10_read_91 ⟨Nat.le_of_ble_eq_true rfl, Nat.le_of_ble_eq_true rfl⟩) hI (fun M H locs hp hI => ?_)
              obtain ⟨hL4, hF⟩ := hp
              generalize heg5 : s_X6_refuseBefore g4.2.2 7 x = g5 at hL4 hR ⊢
              have hL0 := hL0.fr hF (fun q h1 h2 hq => by omega)
              have hL1 := hL1.fr hF (fun q h1 h2 hq => by omega)
              have hL2 := hL2.fr hF (fun q h1 h2 hq => by omega)
              have hL3 := hL3.fr hF (fun q h1 h2 hq => by omega)
              have hS := hS.tr hF (fun q hq => by omega)
              refine lv_goto (tgt := 107) hx hb dX10_read_94 (by decide) ?_
              exact q_iret hx hb hret hlk hN hI (by subst hR; exact ⟨rfl, ⟨hL0, hL1, hL2, hL3, hL4, hS⟩, rfl⟩) dX10_read_107
    exact loop _ 0 _ _ (q_fuel _) hR M H locs ls hL0 hL1 hL2 hL3 hL4 hS hI hl
  · rw [if_pos c1] at hR
    refine lv_aload_n hx hb dX10_read_19 rfl (lv_at hl 1 rfl) ?_
    refine lv_aload_n hx hb dX10_read_20 rfl (lv_at hl 1 rfl) ?_
    refine q_get hx hb hg in_X10 hown hK hI hL0 rfl 4 (by decide) (hg _ wf_X10_32) (fun _ h9 => h9) rfl dX10_read_21 ?_
    refine q_getN hx hb hg in_X3 hown hK hI hL3.1 rfl 6 (by decide) (hK.2 _ (List.mem_of_getElem? (i := 24) rfl)) (fun _ h9 => h9) rfl dX10_read_24 ?_
    have hn := qLX.i7 j.2.2.2.2.2.2 hL0
    refine q_put (v := .int j.2.2.2.2.2.2) hx hb hg in_X10 tyX10_ok nmX10 hown hK hI hL0 rfl 7 (by decide) (hg _ wf_X10_50) (fun _ h9 => h9) rfl rfl rfl (Nat.le_of_ble_eq_true rfl) dX10_read_27 (fun H locs hI => ?_)
    obtain ⟨M, hL0, hF, hI⟩ : ∃ Mx : qM, qLX cs Mx a (j.2.2.2.2.2.2, f.2) ∧ qFr (qIn a 1) M Mx ∧ qI D M0 s.heap Mx N H locs := ⟨_, hn, qFr.up (k := 1) (by decide), hI⟩
    have hL1 := hL1.fr hF (fun q h1 h2 hq => by omega)
    have hL2 := hL2.fr hF (fun q h1 h2 hq => by omega)
    have hL3 := hL3.fr hF (fun q h1 h2 hq => by omega)
    have hL4 := hL4.fr hF (fun q h1 h2 hq => by omega)
    have hS := hS.tr hF (fun q hq => by omega)
    refine lv_bipush (v := (-2)) hx hb dX10_read_30 (by decide) ?_
    exact q_iret hx hb hret hlk hN hI (by subst hR; exact ⟨rfl, ⟨hL0, hL1, hL2, hL3, hL4, hS⟩, rfl⟩) dX10_read_32
