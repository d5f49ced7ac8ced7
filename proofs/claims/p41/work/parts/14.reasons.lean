def s_X6_refuse (v : qRV) (p1 : Int32) (p2 : Int32) : Int32 × qRV := ((-3), (p1, p2, 0, 0))
set_option maxHeartbeats 4000000 in
set_option maxRecDepth 20000 in
theorem c_X6_refuse (l : Launch) (D : va_G) (cs : qC) {M0 : qM} {N a : Nat} {v : qRV} (hL0 : qLR cs M0 a v) (p1 : Int32) (p2 : Int32) :
    qMet l D cs yX6_refuse (qws yX6_refuse cX6_refuse 3 (some .int)) ({ frames := 0, cells := 0, slots := 0, locals := 0 } : Room) M0 N [.ref a, .int p1, .int p2] (qMod N (some (.int ((s_X6_refuse v p1 p2).1))) (fun M' => qLR cs M' a ((s_X6_refuse v p1 p2).2) ∧ qFr (qIn a 1) M0 M')) 0 0 := by
  obtain ⟨R, hR⟩ : ∃ R, s_X6_refuse v p1 p2 = R := ⟨_, rfl⟩
  rw [hR]
  rw [s_X6_refuse] at hR
  refine q_head (by decide +kernel) ?_ (Nat.le_of_ble_eq_true rfl)
  intro p e s m below meth c ls hx hb hret hlk hml hown hnm hg hK hN hI hl
  have hl : lv_has ls 3 [(0, .ref a), (1, .int p1), (2, .int p2)] := hl
  have hS : qFr (qIn a 1) M0 M0 := qFr.rf
  refine lv_aload_n hx hb dX6_refuse_0 rfl (lv_at hl 0 rfl) ?_
  refine lv_iload_n hx hb dX6_refuse_1 rfl (lv_at hl 1 rfl) ?_
  have hn := qLR.i0 p1 hL0
  refine q_put (v := .int p1) hx hb hg in_X6 tyX6_ok nmX6 hown hK hI hL0 rfl 0 (by decide) (hg _ wf_X6_9) (fun _ h9 => h9) rfl rfl rfl (Nat.le_of_ble_eq_true rfl) dX6_refuse_2 (fun H locs hI => ?_)
  obtain ⟨M, hn, hF, hI⟩ : ∃ Mx : qM, qLR cs Mx a (p1, v.2.1, v.2.2.1, v.2.2.2) ∧ qFr (qIn a 1) M0 Mx ∧ qI D M0 s.heap Mx N H locs := ⟨_, hn, qFr.up (by decide), hI⟩
  have hL0 := hn
  have hS := hS.tr hF (fun q hq => by omega)
  refine lv_aload_n hx hb dX6_refuse_5 rfl (lv_at hl 0 rfl) ?_
  refine lv_iload_n hx hb dX6_refuse_6 rfl (lv_at hl 2 rfl) ?_
  have hn := qLR.i1 p2 hL0
  refine q_put (v := .int p2) hx hb hg in_X6 tyX6_ok nmX6 hown hK hI hL0 rfl 1 (by decide) (hg _ wf_X6_15) (fun _ h9 => h9) rfl rfl rfl (Nat.le_of_ble_eq_true rfl) dX6_refuse_7 (fun H locs hI => ?_)
  obtain ⟨M, hn, hF, hI⟩ : ∃ Mx : qM, qLR cs Mx a (p1, p2, v.2.2.1, v.2.2.2) ∧ qFr (qIn a 1) M Mx ∧ qI D M0 s.heap Mx N H locs := ⟨_, hn, qFr.up (by decide), hI⟩
  have hL0 := hn
  have hS := hS.tr hF (fun q hq => by omega)
  refine lv_aload_n hx hb dX6_refuse_10 rfl (lv_at hl 0 rfl) ?_
  refine lv_iconst (v := 0) hx hb dX6_refuse_11 (by decide) ?_
  have hn := qLR.i2 0 hL0
  refine q_put (v := .int 0) hx hb hg in_X6 tyX6_ok nmX6 hown hK hI hL0 rfl 2 (by decide) (hg _ wf_X6_18) (fun _ h9 => h9) rfl rfl rfl (Nat.le_of_ble_eq_true rfl) dX6_refuse_12 (fun H locs hI => ?_)
  obtain ⟨M, hn, hF, hI⟩ : ∃ Mx : qM, qLR cs Mx a (p1, p2, 0, v.2.2.2) ∧ qFr (qIn a 1) M Mx ∧ qI D M0 s.heap Mx N H locs := ⟨_, hn, qFr.up (by decide), hI⟩
  have hL0 := hn
  have hS := hS.tr hF (fun q hq => by omega)
  refine lv_aload_n hx hb dX6_refuse_15 rfl (lv_at hl 0 rfl) ?_
  refine lv_iconst (v := 0) hx hb dX6_refuse_16 (by decide) ?_
  have hn := qLR.i3 0 hL0
  refine q_put (v := .int 0) hx hb hg in_X6 tyX6_ok nmX6 hown hK hI hL0 rfl 3 (by decide) (hg _ wf_X6_21) (fun _ h9 => h9) rfl rfl rfl (Nat.le_of_ble_eq_true rfl) dX6_refuse_17 (fun H locs hI => ?_)
  obtain ⟨M, hn, hF, hI⟩ : ∃ Mx : qM, qLR cs Mx a (p1, p2, 0, 0) ∧ qFr (qIn a 1) M Mx ∧ qI D M0 s.heap Mx N H locs := ⟨_, hn, qFr.up (by decide), hI⟩
  have hL0 := hn
  have hS := hS.tr hF (fun q hq => by omega)
  refine lv_bipush (v := (-3)) hx hb dX6_refuse_20 (by decide) ?_
  exact q_iret hx hb hret hlk hN hI (by subst hR; exact ⟨rfl, ⟨hL0, hS⟩, rfl⟩) dX6_refuse_22
def s_X6_refuseBefore (v : qRV) (p1 : Int32) (p2 : Int32) : Int32 × qRV := ((-3), (p1, p2, v.1, v.2.1))
set_option maxHeartbeats 4000000 in
set_option maxRecDepth 20000 in
theorem c_X6_refuseBefore (l : Launch) (D : va_G) (cs : qC) {M0 : qM} {N a : Nat} {v : qRV} (hL0 : qLR cs M0 a v) (p1 : Int32) (p2 : Int32) :
    qMet l D cs yX6_refuseBefore (qws yX6_refuseBefore cX6_refuseBefore 3 (some .int)) ({ frames := 0, cells := 0, slots := 0, locals := 0 } : Room) M0 N [.ref a, .int p1, .int p2] (qMod N (some (.int ((s_X6_refuseBefore v p1 p2).1))) (fun M' => qLR cs M' a ((s_X6_refuseBefore v p1 p2).2) ∧ qFr (qIn a 1) M0 M')) 0 0 := by
  obtain ⟨R, hR⟩ : ∃ R, s_X6_refuseBefore v p1 p2 = R := ⟨_, rfl⟩
  rw [hR]
  rw [s_X6_refuseBefore] at hR
  refine q_head (by decide +kernel) ?_ (Nat.le_of_ble_eq_true rfl)
  intro p e s m below meth c ls hx hb hret hlk hml hown hnm hg hK hN hI hl
  have hl : lv_has ls 3 [(0, .ref a), (1, .int p1), (2, .int p2)] := hl
  have hS : qFr (qIn a 1) M0 M0 := qFr.rf
  refine lv_aload_n hx hb dX6_refuseBefore_0 rfl (lv_at hl 0 rfl) ?_
  refine lv_aload_n hx hb dX6_refuseBefore_1 rfl (lv_at hl 0 rfl) ?_
  refine q_get hx hb hg in_X6 hown hK hI hL0 rfl 0 (by decide) (hg _ wf_X6_9) (fun _ h9 => h9) rfl dX6_refuseBefore_2 ?_
  have hn := qLR.i2 v.1 hL0
  refine q_put (v := .int v.1) hx hb hg in_X6 tyX6_ok nmX6 hown hK hI hL0 rfl 2 (by decide) (hg _ wf_X6_18) (fun _ h9 => h9) rfl rfl rfl (Nat.le_of_ble_eq_true rfl) dX6_refuseBefore_5 (fun H locs hI => ?_)
  obtain ⟨M, hn, hF, hI⟩ : ∃ Mx : qM, qLR cs Mx a (v.1, v.2.1, v.1, v.2.2.2) ∧ qFr (qIn a 1) M0 Mx ∧ qI D M0 s.heap Mx N H locs := ⟨_, hn, qFr.up (by decide), hI⟩
  have hL0 := hn
  have hS := hS.tr hF (fun q hq => by omega)
  refine lv_aload_n hx hb dX6_refuseBefore_8 rfl (lv_at hl 0 rfl) ?_
  refine lv_aload_n hx hb dX6_refuseBefore_9 rfl (lv_at hl 0 rfl) ?_
  refine q_get hx hb hg in_X6 hown hK hI hL0 rfl 1 (by decide) (hg _ wf_X6_15) (fun _ h9 => h9) rfl dX6_refuseBefore_10 ?_
  have hn := qLR.i3 v.2.1 hL0
  refine q_put (v := .int v.2.1) hx hb hg in_X6 tyX6_ok nmX6 hown hK hI hL0 rfl 3 (by decide) (hg _ wf_X6_21) (fun _ h9 => h9) rfl rfl rfl (Nat.le_of_ble_eq_true rfl) dX6_refuseBefore_13 (fun H locs hI => ?_)
  obtain ⟨M, hn, hF, hI⟩ : ∃ Mx : qM, qLR cs Mx a (v.1, v.2.1, v.1, v.2.1) ∧ qFr (qIn a 1) M Mx ∧ qI D M0 s.heap Mx N H locs := ⟨_, hn, qFr.up (by decide), hI⟩
  have hL0 := hn
  have hS := hS.tr hF (fun q hq => by omega)
  refine lv_aload_n hx hb dX6_refuseBefore_16 rfl (lv_at hl 0 rfl) ?_
  refine lv_iload_n hx hb dX6_refuseBefore_17 rfl (lv_at hl 1 rfl) ?_
  have hn := qLR.i0 p1 hL0
  refine q_put (v := .int p1) hx hb hg in_X6 tyX6_ok nmX6 hown hK hI hL0 rfl 0 (by decide) (hg _ wf_X6_9) (fun _ h9 => h9) rfl rfl rfl (Nat.le_of_ble_eq_true rfl) dX6_refuseBefore_18 (fun H locs hI => ?_)
  obtain ⟨M, hn, hF, hI⟩ : ∃ Mx : qM, qLR cs Mx a (p1, v.2.1, v.1, v.2.1) ∧ qFr (qIn a 1) M Mx ∧ qI D M0 s.heap Mx N H locs := ⟨_, hn, qFr.up (by decide), hI⟩
  have hL0 := hn
  have hS := hS.tr hF (fun q hq => by omega)
  refine lv_aload_n hx hb dX6_refuseBefore_21 rfl (lv_at hl 0 rfl) ?_
  refine lv_iload_n hx hb dX6_refuseBefore_22 rfl (lv_at hl 2 rfl) ?_
  have hn := qLR.i1 p2 hL0
  refine q_put (v := .int p2) hx hb hg in_X6 tyX6_ok nmX6 hown hK hI hL0 rfl 1 (by decide) (hg _ wf_X6_15) (fun _ h9 => h9) rfl rfl rfl (Nat.le_of_ble_eq_true rfl) dX6_refuseBefore_23 (fun H locs hI => ?_)
  obtain ⟨M, hn, hF, hI⟩ : ∃ Mx : qM, qLR cs Mx a (p1, p2, v.1, v.2.1) ∧ qFr (qIn a 1) M Mx ∧ qI D M0 s.heap Mx N H locs := ⟨_, hn, qFr.up (by decide), hI⟩
  have hL0 := hn
  have hS := hS.tr hF (fun q hq => by omega)
  refine lv_bipush (v := (-3)) hx hb dX6_refuseBefore_26 (by decide) ?_
  exact q_iret hx hb hret hlk hN hI (by subst hR; exact ⟨rfl, ⟨hL0, hS⟩, rfl⟩) dX6_refuseBefore_28
def s_X6_tell (v : qRV) (p1 : Int32) (p2 : Int32) : Int32 := (if p1 < 0 then (-2) else (if p1 ≤ 1 then (if p1 = 0 then (if v.1 = 0 then (-4) else (if p1 = 0 then (if p2 = 0 then v.1 else v.2.1) else (if p2 = 0 then v.1 else v.2.2.2))) else (if v.2.2.1 = 0 then (-4) else (if p1 = 0 then (if p2 = 0 then v.2.2.1 else v.2.1) else (if p2 = 0 then v.2.2.1 else v.2.2.2)))) else (-2)))
set_option maxHeartbeats 4000000 in
set_option maxRecDepth 20000 in
theorem c_X6_tell (l : Launch) (D : va_G) (cs : qC) {M0 : qM} {N a : Nat} {v : qRV} (hL0 : qLR cs M0 a v) (p1 : Int32) (p2 : Int32) :
    qMet l D cs yX6_tell (qws yX6_tell cX6_tell 5 (some .int)) ({ frames := 0, cells := 0, slots := 0, locals := 0 } : Room) M0 N [.ref a, .int p1, .int p2] (qRet M0 N (.int (s_X6_tell v p1 p2))) 0 0 := by
  obtain ⟨R, hR⟩ : ∃ R, s_X6_tell v p1 p2 = R := ⟨_, rfl⟩
  rw [hR]
  rw [s_X6_tell] at hR
  refine q_head (by decide +kernel) ?_ (Nat.le_of_ble_eq_true rfl)
  intro p e s m below meth c ls hx hb hret hlk hml hown hnm hg hK hN hI hl
  have hl : lv_has ls 5 [(0, .ref a), (1, .int p1), (2, .int p2)] := hl
  refine lv_iload_n hx hb dX6_tell_0 rfl (lv_at hl 1 rfl) ?_
  refine lv_if_lt (tgt := 9) hx hb dX6_tell_1 (by decide) (fun c1 => ?_) (fun c1 => ?_)
  · rw [if_pos c1] at hR
    refine lv_bipush (v := (-2)) hx hb dX6_tell_9 (by decide) ?_
    exact q_iret hx hb hret hlk hN hI (by subst hR; exact ⟨rfl, rfl, rfl⟩) dX6_tell_11
  · rw [if_neg c1] at hR
    refine lv_iload_n hx hb dX6_tell_4 rfl (lv_at hl 1 rfl) ?_
    refine lv_iconst (v := 1) hx hb dX6_tell_5 (by decide) ?_
    refine lv_icmp_le (tgt := 12) hx hb dX6_tell_6 (by decide) (fun c2 => ?_) (fun c2 => ?_)
    · rw [if_pos c2] at hR
      refine lv_iload_n hx hb dX6_tell_12 rfl (lv_at hl 1 rfl) ?_
      refine lv_if_ne (tgt := 23) hx hb dX6_tell_13 (by decide) (fun c3 => ?_) (fun c3 => ?_)
      · rw [if_neg c3] at hR
        refine lv_aload_n hx hb dX6_tell_23 rfl (lv_at hl 0 rfl) ?_
        refine q_get hx hb hg in_X6 hown hK hI hL0 rfl 2 (by decide) (hg _ wf_X6_18) (fun _ h9 => h9) rfl dX6_tell_24 ?_
        refine lv_istore_n (lv' := [(3, .int v.2.2.1), (0, .ref a), (1, .int p1), (2, .int p2)]) hx hb dX6_tell_27 rfl hl (by decide) rfl (fun ls hl => ?_)
        refine lv_iload_n hx hb dX6_tell_28 rfl (lv_at hl 0 rfl) ?_
        refine lv_if_ne (tgt := 35) hx hb dX6_tell_29 (by decide) (fun c4 => ?_) (fun c4 => ?_)
        · rw [if_neg c4] at hR
          refine lv_iload_n hx hb dX6_tell_35 rfl (lv_at hl 2 rfl) ?_
          refine lv_if_ne (tgt := 46) hx hb dX6_tell_36 (by decide) (fun c5 => ?_) (fun c5 => ?_)
          · rw [if_neg c5] at hR
            refine lv_aload_n hx hb dX6_tell_46 rfl (lv_at hl 1 rfl) ?_
            refine q_get hx hb hg in_X6 hown hK hI hL0 rfl 3 (by decide) (hg _ wf_X6_21) (fun _ h9 => h9) rfl dX6_tell_47 ?_
            refine lv_istore (lv' := [(4, .int v.2.2.2), (3, .int v.2.2.1), (0, .ref a), (1, .int p1), (2, .int p2)]) hx hb dX6_tell_50 hl (by decide) rfl (fun ls hl => ?_)
            refine lv_iload_n hx hb dX6_tell_52 rfl (lv_at hl 4 rfl) ?_
            refine lv_if_eq (tgt := 61) hx hb dX6_tell_53 (by decide) (fun c6 => ?_) (fun c6 => ?_)
            · rw [if_pos c6] at hR
              refine lv_iload_n hx hb dX6_tell_61 rfl (lv_at hl 1 rfl) ?_
              exact q_iret hx hb hret hlk hN hI (by subst hR; exact ⟨rfl, rfl, rfl⟩) dX6_tell_62
            · rw [if_neg c6] at hR
              refine lv_iload hx hb dX6_tell_56 (lv_at hl 0 rfl) ?_
              refine lv_goto (tgt := 62) hx hb dX6_tell_58 (by decide) ?_
              exact q_iret hx hb hret hlk hN hI (by subst hR; exact ⟨rfl, rfl, rfl⟩) dX6_tell_62
          · rw [if_pos c5] at hR
            refine lv_aload_n hx hb dX6_tell_39 rfl (lv_at hl 1 rfl) ?_
            refine q_get hx hb hg in_X6 hown hK hI hL0 rfl 1 (by decide) (hg _ wf_X6_15) (fun _ h9 => h9) rfl dX6_tell_40 ?_
            refine lv_goto (tgt := 50) hx hb dX6_tell_43 (by decide) ?_
            refine lv_istore (lv' := [(4, .int v.2.1), (3, .int v.2.2.1), (0, .ref a), (1, .int p1), (2, .int p2)]) hx hb dX6_tell_50 hl (by decide) rfl (fun ls hl => ?_)
            refine lv_iload_n hx hb dX6_tell_52 rfl (lv_at hl 4 rfl) ?_
            refine lv_if_eq (tgt := 61) hx hb dX6_tell_53 (by decide) (fun c7 => ?_) (fun c7 => ?_)
            · rw [if_pos c7] at hR
              refine lv_iload_n hx hb dX6_tell_61 rfl (lv_at hl 1 rfl) ?_
              exact q_iret hx hb hret hlk hN hI (by subst hR; exact ⟨rfl, rfl, rfl⟩) dX6_tell_62
            · rw [if_neg c7] at hR
              refine lv_iload hx hb dX6_tell_56 (lv_at hl 0 rfl) ?_
              refine lv_goto (tgt := 62) hx hb dX6_tell_58 (by decide) ?_
              exact q_iret hx hb hret hlk hN hI (by subst hR; exact ⟨rfl, rfl, rfl⟩) dX6_tell_62
        · rw [if_pos c4] at hR
          refine lv_bipush (v := (-4)) hx hb dX6_tell_32 (by decide) ?_
          exact q_iret hx hb hret hlk hN hI (by subst hR; exact ⟨rfl, rfl, rfl⟩) dX6_tell_34
      · rw [if_pos c3] at hR
        refine lv_aload_n hx hb dX6_tell_16 rfl (lv_at hl 0 rfl) ?_
        refine q_get hx hb hg in_X6 hown hK hI hL0 rfl 0 (by decide) (hg _ wf_X6_9) (fun _ h9 => h9) rfl dX6_tell_17 ?_
        refine lv_goto (tgt := 27) hx hb dX6_tell_20 (by decide) ?_
        refine lv_istore_n (lv' := [(3, .int v.1), (0, .ref a), (1, .int p1), (2, .int p2)]) hx hb dX6_tell_27 rfl hl (by decide) rfl (fun ls hl => ?_)
        refine lv_iload_n hx hb dX6_tell_28 rfl (lv_at hl 0 rfl) ?_
        refine lv_if_ne (tgt := 35) hx hb dX6_tell_29 (by decide) (fun c8 => ?_) (fun c8 => ?_)
        · rw [if_neg c8] at hR
          refine lv_iload_n hx hb dX6_tell_35 rfl (lv_at hl 2 rfl) ?_
          refine lv_if_ne (tgt := 46) hx hb dX6_tell_36 (by decide) (fun c9 => ?_) (fun c9 => ?_)
          · rw [if_neg c9] at hR
            refine lv_aload_n hx hb dX6_tell_46 rfl (lv_at hl 1 rfl) ?_
            refine q_get hx hb hg in_X6 hown hK hI hL0 rfl 3 (by decide) (hg _ wf_X6_21) (fun _ h9 => h9) rfl dX6_tell_47 ?_
            refine lv_istore (lv' := [(4, .int v.2.2.2), (3, .int v.1), (0, .ref a), (1, .int p1), (2, .int p2)]) hx hb dX6_tell_50 hl (by decide) rfl (fun ls hl => ?_)
            refine lv_iload_n hx hb dX6_tell_52 rfl (lv_at hl 4 rfl) ?_
            refine lv_if_eq (tgt := 61) hx hb dX6_tell_53 (by decide) (fun c10 => ?_) (fun c10 => ?_)
            · rw [if_pos c10] at hR
              refine lv_iload_n hx hb dX6_tell_61 rfl (lv_at hl 1 rfl) ?_
              exact q_iret hx hb hret hlk hN hI (by subst hR; exact ⟨rfl, rfl, rfl⟩) dX6_tell_62
            · rw [if_neg c10] at hR
              refine lv_iload hx hb dX6_tell_56 (lv_at hl 0 rfl) ?_
              refine lv_goto (tgt := 62) hx hb dX6_tell_58 (by decide) ?_
              exact q_iret hx hb hret hlk hN hI (by subst hR; exact ⟨rfl, rfl, rfl⟩) dX6_tell_62
          · rw [if_pos c9] at hR
            refine lv_aload_n hx hb dX6_tell_39 rfl (lv_at hl 1 rfl) ?_
            refine q_get hx hb hg in_X6 hown hK hI hL0 rfl 1 (by decide) (hg _ wf_X6_15) (fun _ h9 => h9) rfl dX6_tell_40 ?_
            refine lv_goto (tgt := 50) hx hb dX6_tell_43 (by decide) ?_
            refine lv_istore (lv' := [(4, .int v.2.1), (3, .int v.1), (0, .ref a), (1, .int p1), (2, .int p2)]) hx hb dX6_tell_50 hl (by decide) rfl (fun ls hl => ?_)
            refine lv_iload_n hx hb dX6_tell_52 rfl (lv_at hl 4 rfl) ?_
            refine lv_if_eq (tgt := 61) hx hb dX6_tell_53 (by decide) (fun c11 => ?_) (fun c11 => ?_)
            · rw [if_pos c11] at hR
              refine lv_iload_n hx hb dX6_tell_61 rfl (lv_at hl 1 rfl) ?_
              exact q_iret hx hb hret hlk hN hI (by subst hR; exact ⟨rfl, rfl, rfl⟩) dX6_tell_62
            · rw [if_neg c11] at hR
              refine lv_iload hx hb dX6_tell_56 (lv_at hl 0 rfl) ?_
              refine lv_goto (tgt := 62) hx hb dX6_tell_58 (by decide) ?_
              exact q_iret hx hb hret hlk hN hI (by subst hR; exact ⟨rfl, rfl, rfl⟩) dX6_tell_62
        · rw [if_pos c8] at hR
          refine lv_bipush (v := (-4)) hx hb dX6_tell_32 (by decide) ?_
          exact q_iret hx hb hret hlk hN hI (by subst hR; exact ⟨rfl, rfl, rfl⟩) dX6_tell_34
    · rw [if_neg c2] at hR
      refine lv_bipush (v := (-2)) hx hb dX6_tell_9 (by decide) ?_
      exact q_iret hx hb hret hlk hN hI (by subst hR; exact ⟨rfl, rfl, rfl⟩) dX6_tell_11
def s_X4_makeEmpty (v : qNV)  : qNV := (v.1, 0)
set_option maxHeartbeats 4000000 in
set_option maxRecDepth 20000 in
theorem c_X4_makeEmpty (l : Launch) (D : va_G) (cs : qC) {M0 : qM} {N a : Nat} {v : qNV} (hL0 : qLN cs M0 a v) :
    qMet l D cs yX4_makeEmpty (qws yX4_makeEmpty cX4_makeEmpty 1 none) ({ frames := 0, cells := 0, slots := 0, locals := 0 } : Room) M0 N [.ref a] (qMod N none (fun M' => qLN cs M' a (s_X4_makeEmpty v) ∧ qFr (qIn a 2) M0 M')) 0 0 := by
  obtain ⟨R, hR⟩ : ∃ R, s_X4_makeEmpty v = R := ⟨_, rfl⟩
  rw [hR]
  rw [s_X4_makeEmpty] at hR
  refine q_head (by decide +kernel) ?_ (Nat.le_of_ble_eq_true rfl)
  intro p e s m below meth c ls hx hb hret hlk hml hown hnm hg hK hN hI hl
  have hl : lv_has ls 1 [(0, .ref a)] := hl
  have hS : qFr (qIn a 2) M0 M0 := qFr.rf
  refine lv_aload_n hx hb dX4_makeEmpty_0 rfl (lv_at hl 0 rfl) ?_
  refine lv_iconst (v := 0) hx hb dX4_makeEmpty_1 (by decide) ?_
  have hn := qLN.i1 0 hL0
  refine q_put (v := .int 0) hx hb hg in_X4 tyX4_ok nmX4 hown hK hI hL0.1 rfl 1 (by decide) (hg _ wf_X4_15) (fun _ h9 => h9) rfl rfl rfl (Nat.le_of_ble_eq_true rfl) dX4_makeEmpty_2 (fun H locs hI => ?_)
  obtain ⟨M, hn, hF, hI⟩ : ∃ Mx : qM, qLN cs Mx a (v.1, 0) ∧ qFr (qIn a 1) M0 Mx ∧ qI D M0 s.heap Mx N H locs := ⟨_, hn, qFr.up (by decide), hI⟩
  have hL0 := hn
  have hS := hS.tr hF (fun q hq => by omega)
  exact q_vret (st := []) hx hb hret hlk hN hI (by subst hR; exact ⟨rfl, ⟨hL0, hS⟩, rfl⟩) dX4_makeEmpty_5
def s_X4_addSign (v : qNV) (p1 : Int32) : qNV := (if 54 ≤ v.2 then v else ((rowPut v.1 v.2 p1), v.2 + 1))
set_option maxHeartbeats 4000000 in
set_option maxRecDepth 20000 in
theorem c_X4_addSign (l : Launch) (D : va_G) (cs : qC) {M0 : qM} {N a : Nat} {v : qNV} (hL0 : qLN cs M0 a v) (p1 : Int32) :
    qMet l D cs yX4_addSign (qws yX4_addSign cX4_addSign 2 none) ({ frames := 1, cells := 0, slots := 0, locals := 22 } : Room) M0 N [.ref a, .int p1] (qMod N none (fun M' => qLN cs M' a (s_X4_addSign v p1) ∧ qFr (qIn a 2) M0 M')) 0 0 := by
  obtain ⟨R, hR⟩ : ∃ R, s_X4_addSign v p1 = R := ⟨_, rfl⟩
  rw [hR]
  rw [s_X4_addSign] at hR
  refine q_head (by decide +kernel) ?_ (Nat.le_of_ble_eq_true rfl)
  intro p e s m below meth c ls hx hb hret hlk hml hown hnm hg hK hN hI hl
  have hl : lv_has ls 2 [(0, .ref a), (1, .int p1)] := hl
  have hS : qFr (qIn a 2) M0 M0 := qFr.rf
  refine lv_aload_n hx hb dX4_addSign_0 rfl (lv_at hl 0 rfl) ?_
  refine q_get hx hb hg in_X4 hown hK hI hL0.1 rfl 1 (by decide) (hg _ wf_X4_15) (fun _ h9 => h9) rfl dX4_addSign_1 ?_
  refine lv_bipush (v := 54) hx hb dX4_addSign_4 (by decide) ?_
  refine lv_icmp_ge (tgt := 31) hx hb dX4_addSign_6 (by decide) (fun c1 => ?_) (fun c1 => ?_)
  · rw [if_pos c1] at hR
    exact q_vret (st := []) hx hb hret hlk hN hI (by subst hR; exact ⟨rfl, ⟨hL0, hS⟩, rfl⟩) dX4_addSign_31
  · rw [if_neg c1] at hR
    refine lv_aload_n hx hb dX4_addSign_9 rfl (lv_at hl 0 rfl) ?_
    refine q_get hx hb hg in_X4 hown hK hI hL0.1 rfl 0 (by decide) (hg _ wf_X4_9) (fun _ h9 => h9) rfl dX4_addSign_10 ?_
    refine lv_aload_n hx hb dX4_addSign_13 rfl (lv_at hl 0 rfl) ?_
    refine q_get hx hb hg in_X4 hown hK hI hL0.1 rfl 1 (by decide) (hg _ wf_X4_15) (fun _ h9 => h9) rfl dX4_addSign_14 ?_
    refine lv_iload_n hx hb dX4_addSign_17 rfl (lv_at hl 1 rfl) ?_
    refine q_goN (q_runSN (As := [.ref (a + 1), .int v.2, .int p1]) (rest := []) hx hb hml hown hg (c_X10_put l D cs hL0.2 v.2 p1) v_X10_put (hK.2 _ (List.mem_of_getElem? (i := 47) rfl)) rfl rfl ⟨Nat.le_of_ble_eq_true rfl, Nat.le_of_ble_eq_true rfl⟩ hI hK hl.1 rfl rfl (Nat.le_of_ble_eq_true rfl) dX4_addSign_18 ⟨Nat.le_of_ble_eq_true rfl, Nat.le_of_ble_eq_true rfl⟩) hI (fun M H locs hp hI => ?_)
    obtain ⟨hn0, hF⟩ := hp
    generalize heg2 : rowPut v.1 v.2 p1 = g2 at hn0 hR
    have hn := hn0
    have hn : qLN cs M a (g2, v.2) := qLN.s0 (v := v) hL0 hn (qFr.rf.tr hF (fun q hq => by omega))
    have hL0 := hn
    have hS := hS.tr hF (fun q hq => by omega)
    refine lv_aload_n hx hb dX4_addSign_21 rfl (lv_at hl 0 rfl) ?_
    refine lv_dup hx hb dX4_addSign_22 rfl ?_
    refine q_get hx hb hg in_X4 hown hK hI hL0.1 rfl 1 (by decide) (hg _ wf_X4_15) (fun _ h9 => h9) rfl dX4_addSign_23 ?_
    refine lv_iconst (v := 1) hx hb dX4_addSign_26 (by decide) ?_
    refine lv_iadd hx hb dX4_addSign_27 ?_
    have hn := qLN.i1 (v.2 + 1) hL0
    refine q_put (v := .int (v.2 + 1)) hx hb hg in_X4 tyX4_ok nmX4 hown hK hI hL0.1 rfl 1 (by decide) (hg _ wf_X4_15) (fun _ h9 => h9) rfl rfl rfl (Nat.le_of_ble_eq_true rfl) dX4_addSign_28 (fun H locs hI => ?_)
    obtain ⟨M, hn, hF, hI⟩ : ∃ Mx : qM, qLN cs Mx a (g2, v.2 + 1) ∧ qFr (qIn a 1) M Mx ∧ qI D M0 s.heap Mx N H locs := ⟨_, hn, qFr.up (by decide), hI⟩
    have hL0 := hn
    have hS := hS.tr hF (fun q hq => by omega)
    exact q_vret (st := []) hx hb hret hlk hN hI (by subst hR; exact ⟨rfl, ⟨hL0, hS⟩, rfl⟩) dX4_addSign_31
def s_X4_addNumber (v : qNV) (p1 : Int32) : qNV := (if p1 < 10 then (s_X4_addSign v (((48 + (p1 - p1 / 10 * 10)).toUInt32 % 65536).toInt32)) else (s_X4_addSign (s_X4_addSign v (((48 + (p1 / 10)).toUInt32 % 65536).toInt32)) (((48 + (p1 - p1 / 10 * 10)).toUInt32 % 65536).toInt32)))
set_option maxHeartbeats 4000000 in
set_option maxRecDepth 20000 in
theorem c_X4_addNumber (l : Launch) (D : va_G) (cs : qC) {M0 : qM} {N a : Nat} {v : qNV} (hL0 : qLN cs M0 a v) (p1 : Int32) :
    qMet l D cs yX4_addNumber (qws yX4_addNumber cX4_addNumber 2 none) ({ frames := 2, cells := 0, slots := 0, locals := 43 } : Room) M0 N [.ref a, .int p1] (qMod N none (fun M' => qLN cs M' a (s_X4_addNumber v p1) ∧ qFr (qIn a 2) M0 M')) 0 0 := by
  obtain ⟨R, hR⟩ : ∃ R, s_X4_addNumber v p1 = R := ⟨_, rfl⟩
  rw [hR]
  rw [s_X4_addNumber] at hR
  refine q_head (by decide +kernel) ?_ (Nat.le_of_ble_eq_true rfl)
  intro p e s m below meth c ls hx hb hret hlk hml hown hnm hg hK hN hI hl
  have hl : lv_has ls 2 [(0, .ref a), (1, .int p1)] := hl
  have hS : qFr (qIn a 2) M0 M0 := qFr.rf
  refine lv_iload_n hx hb dX4_addNumber_0 rfl (lv_at hl 1 rfl) ?_
  refine lv_bipush (v := 10) hx hb dX4_addNumber_1 (by decide) ?_
  refine lv_icmp_lt (tgt := 18) hx hb dX4_addNumber_3 (by decide) (fun c1 => ?_) (fun c1 => ?_)
  · rw [if_pos c1] at hR
    refine lv_aload_n hx hb dX4_addNumber_18 rfl (lv_at hl 0 rfl) ?_
    refine lv_bipush (v := 48) hx hb dX4_addNumber_19 (by decide) ?_
    refine lv_iload_n hx hb dX4_addNumber_21 rfl (lv_at hl 1 rfl) ?_
    refine lv_bipush (v := 10) hx hb dX4_addNumber_22 (by decide) ?_
    refine lv_irem hx hb dX4_addNumber_24 (by decide) ?_
    refine lv_iadd hx hb dX4_addNumber_25 ?_
    refine lv_i2c hx hb dX4_addNumber_26 rfl ?_
    refine q_goN (q_runV (As := [.int (((48 + (p1 - p1 / 10 * 10)).toUInt32 % 65536).toInt32)]) (rest := []) hx hb hml hown hg (c_X4_addSign l D cs hL0 (((48 + (p1 - p1 / 10 * 10)).toUInt32 % 65536).toInt32)) v_X4_addSign wl_X4_23 rfl rfl ⟨Nat.le_of_ble_eq_true rfl, Nat.le_of_ble_eq_true rfl⟩ hI hK 5 hL0.1 rfl hl.1 rfl rfl (Nat.le_of_ble_eq_true rfl) dX4_addNumber_27 ⟨Nat.le_of_ble_eq_true rfl, Nat.le_of_ble_eq_true rfl⟩) hI (fun M H locs hp hI => ?_)
    obtain ⟨hn0, hF⟩ := hp
    generalize heg2 : s_X4_addSign v (((48 + (p1 - p1 / 10 * 10)).toUInt32 % 65536).toInt32) = g2 at hn0 hR
    have hn := hn0
    have hL0 := hn
    have hS := hS.tr hF (fun q hq => by omega)
    exact q_vret (st := []) hx hb hret hlk hN hI (by subst hR; exact ⟨rfl, ⟨hL0, hS⟩, rfl⟩) dX4_addNumber_30
  · rw [if_neg c1] at hR
    refine lv_aload_n hx hb dX4_addNumber_6 rfl (lv_at hl 0 rfl) ?_
    refine lv_bipush (v := 48) hx hb dX4_addNumber_7 (by decide) ?_
    refine lv_iload_n hx hb dX4_addNumber_9 rfl (lv_at hl 1 rfl) ?_
    refine lv_bipush (v := 10) hx hb dX4_addNumber_10 (by decide) ?_
    refine lv_idiv hx hb dX4_addNumber_12 (by decide) ?_
    refine lv_iadd hx hb dX4_addNumber_13 ?_
    refine lv_i2c hx hb dX4_addNumber_14 rfl ?_
    refine q_goN (q_runV (As := [.int (((48 + (p1 / 10)).toUInt32 % 65536).toInt32)]) (rest := []) hx hb hml hown hg (c_X4_addSign l D cs hL0 (((48 + (p1 / 10)).toUInt32 % 65536).toInt32)) v_X4_addSign wl_X4_23 rfl rfl ⟨Nat.le_of_ble_eq_true rfl, Nat.le_of_ble_eq_true rfl⟩ hI hK 5 hL0.1 rfl hl.1 rfl rfl (Nat.le_of_ble_eq_true rfl) dX4_addNumber_15 ⟨Nat.le_of_ble_eq_true rfl, Nat.le_of_ble_eq_true rfl⟩) hI (fun M H locs hp hI => ?_)
    obtain ⟨hn0, hF⟩ := hp
    generalize heg3 : s_X4_addSign v (((48 + (p1 / 10)).toUInt32 % 65536).toInt32) = g3 at hn0 hR
    have hn := hn0
    have hL0 := hn
    have hS := hS.tr hF (fun q hq => by omega)
    refine lv_aload_n hx hb dX4_addNumber_18 rfl (lv_at hl 0 rfl) ?_
    refine lv_bipush (v := 48) hx hb dX4_addNumber_19 (by decide) ?_
    refine lv_iload_n hx hb dX4_addNumber_21 rfl (lv_at hl 1 rfl) ?_
    refine lv_bipush (v := 10) hx hb dX4_addNumber_22 (by decide) ?_
    refine lv_irem hx hb dX4_addNumber_24 (by decide) ?_
    refine lv_iadd hx hb dX4_addNumber_25 ?_
    refine lv_i2c hx hb dX4_addNumber_26 rfl ?_
    refine q_goN (q_runV (As := [.int (((48 + (p1 - p1 / 10 * 10)).toUInt32 % 65536).toInt32)]) (rest := []) hx hb hml hown hg (c_X4_addSign l D cs hL0 (((48 + (p1 - p1 / 10 * 10)).toUInt32 % 65536).toInt32)) v_X4_addSign wl_X4_23 rfl rfl ⟨Nat.le_of_ble_eq_true rfl, Nat.le_of_ble_eq_true rfl⟩ hI hK 5 hL0.1 rfl hl.1 rfl rfl (Nat.le_of_ble_eq_true rfl) dX4_addNumber_27 ⟨Nat.le_of_ble_eq_true rfl, Nat.le_of_ble_eq_true rfl⟩) hI (fun M H locs hp hI => ?_)
    obtain ⟨hn0, hF⟩ := hp
    generalize heg4 : s_X4_addSign g3 (((48 + (p1 - p1 / 10 * 10)).toUInt32 % 65536).toInt32) = g4 at hn0 hR
    have hn := hn0
    have hL0 := hn
    have hS := hS.tr hF (fun q hq => by omega)
    exact q_vret (st := []) hx hb hret hlk hN hI (by subst hR; exact ⟨rfl, ⟨hL0, hS⟩, rfl⟩) dX4_addNumber_30
def s_X4_codeAt (v : qNV) (p1 : Int32) : Int32 := (if v.2 ≤ p1 then (-1) else rowAt v.1 p1)
set_option maxHeartbeats 4000000 in
set_option maxRecDepth 20000 in
theorem c_X4_codeAt (l : Launch) (D : va_G) (cs : qC) {M0 : qM} {N a : Nat} {v : qNV} (hL0 : qLN cs M0 a v) (p1 : Int32) :
    qMet l D cs yX4_codeAt (qws yX4_codeAt cX4_codeAt 2 (some .int)) ({ frames := 1, cells := 0, slots := 0, locals := 21 } : Room) M0 N [.ref a, .int p1] (qRet M0 N (.int (s_X4_codeAt v p1))) 0 0 := by
  obtain ⟨R, hR⟩ : ∃ R, s_X4_codeAt v p1 = R := ⟨_, rfl⟩
  rw [hR]
  rw [s_X4_codeAt] at hR
  refine q_head (by decide +kernel) ?_ (Nat.le_of_ble_eq_true rfl)
  intro p e s m below meth c ls hx hb hret hlk hml hown hnm hg hK hN hI hl
  have hl : lv_has ls 2 [(0, .ref a), (1, .int p1)] := hl
  refine lv_iload_n hx hb dX4_codeAt_0 rfl (lv_at hl 1 rfl) ?_
  refine lv_aload_n hx hb dX4_codeAt_1 rfl (lv_at hl 0 rfl) ?_
  refine q_get hx hb hg in_X4 hown hK hI hL0.1 rfl 1 (by decide) (hg _ wf_X4_15) (fun _ h9 => h9) rfl dX4_codeAt_2 ?_
  refine lv_icmp_ge (tgt := 19) hx hb dX4_codeAt_5 (by decide) (fun c1 => ?_) (fun c1 => ?_)
  · rw [if_pos c1] at hR
    refine lv_iconst (v := (-1)) hx hb dX4_codeAt_19 (by decide) ?_
    exact q_iret hx hb hret hlk hN hI (by subst hR; exact ⟨rfl, rfl, rfl⟩) dX4_codeAt_20
  · rw [if_neg c1] at hR
    refine lv_aload_n hx hb dX4_codeAt_8 rfl (lv_at hl 0 rfl) ?_
    refine q_get hx hb hg in_X4 hown hK hI hL0.1 rfl 0 (by decide) (hg _ wf_X4_9) (fun _ h9 => h9) rfl dX4_codeAt_9 ?_
    refine lv_iload_n hx hb dX4_codeAt_12 rfl (lv_at hl 1 rfl) ?_
    refine q_goR (q_runSN (As := [.ref (a + 1), .int p1]) (rest := []) hx hb hml hown hg (c_X10_at l D cs hL0.2 p1) v_X10_at (hK.2 _ (List.mem_of_getElem? (i := 48) rfl)) rfl rfl ⟨Nat.le_of_ble_eq_true rfl, Nat.le_of_ble_eq_true rfl⟩ hI hK hl.1 rfl rfl (Nat.le_of_ble_eq_true rfl) dX4_codeAt_13 ⟨Nat.le_of_ble_eq_true rfl, Nat.le_of_ble_eq_true rfl⟩) hI (fun H locs hI => ?_)
    refine lv_goto (tgt := 20) hx hb dX4_codeAt_16 (by decide) ?_
    exact q_iret hx hb hret hlk hN hI (by subst hR; exact ⟨rfl, rfl, rfl⟩) dX4_codeAt_20
