/-! THE WORDS OF A TEXT -/
theorem qWd_nI {cs : qC} {j : Nat} (h : j < 8) : qWd cs (nI j) = some (cs (16 + j)) := by
  unfold qWd
  rw [if_neg (nI_pos (by omega)), nI_clamp (by omega)]
theorem qWd_neg {cs : qC} {w : Int32} (h : w < 0) : qWd cs w = none := by
  unfold qWd
  rw [if_pos h]
theorem qWd_pos {cs : qC} {w : Int32} (h : ¬ w < 0) : qWd cs w = some (cs (16 + w.toNatClampNeg)) := by
  unfold qWd
  rw [if_neg h]
section QW
variable {p : Program} {l : Launch} {e : Env} {R : Room} {s : State} {m : MethodId} {args : Array Value} {below : List Frame} {meth : Method} {c : Code} {H : Heap} {locs : List Loc} {cells slots : Nat} {Q : State → Prop}
variable {cc : ByteArray} {pc : Nat} {ls : Array Slot} {rest : List Value} {D : va_G} {cs : qC} {M0 M : qM} {N a : Nat}
theorem z_getfN {A : Nat → Prop} (hexec : p.tables.exec = Jvm.exec) (hb : c.code = cc) {o n d own ref host : String} {index q : Nat} {v : Value} (hE : va_OF o n d v q A s s.heap) (hS : va_S A s.heap H locs) (hown : s.vm.findClass own = some m.cls) (hlink : va_Nw (.fieldLinkNest own index ref n d host) s) (hsame : ∀ x, s.fieldFound? o n d = some x → s.fieldFound? ref n d = some x) (hdg : decode cc pc = .ok (.getfield index, 3))
    (kk : W p l e R s m args below meth c H locs cells slots Q (F0 m (pc + 3) ls (v :: rest))) : W p l e R s m args below meth c H locs cells slots Q (F0 m pc ls (.ref q :: rest)) := by
  obtain ⟨cf, k, i, f, cell, h1, h2, h3, h4, h5, h6⟩ := hE.kept hS.2.1
  exact va_Wgetf hexec hb hown (va_Nw.use rfl hlink) (hsame _ h1) h2 h3 h4 (v := v) h5 rfl rfl hdg kk
theorem q_aastZ (hexec : p.tables.exec = Jvm.exec) (hb : c.code = cc) (hK : qK D cs s) (hI : qI D M0 s.heap M N H locs) (t0 : Nat) {C : String} {v : Nat} (ht : (qT cs)[t0]? = some (cs t0, .object C)) {n : Nat} {f : Nat → Option Nat} (hM : M a = some (.inl (cs t0, n, .inr (.inr (.inr (.inr f)))))) (hv : ∃ cell : Cell, H[v]? = some cell ∧ cell.vm.isStatics = false ∧ s.vm.findClass C = some cell.cls) {i : Int32} (hin : vp_in i n) (hdg : decode cc pc = .ok (.aastore, 1))
    (kk : ∀ (H1 : Heap) (locs1 : List Loc), qI D M0 s.heap (qUp M a (.inl (cs t0, n, .inr (.inr (.inr (.inr (va_up f i.toNatClampNeg (some v)))))))) N H1 locs1 → W p l e R s m args below meth c H1 locs1 cells slots Q (F0 m (pc + 1) ls rest)) : W p l e R s m args below meth c H locs cells slots Q (F0 m pc ls (.ref v :: .int i :: .ref a :: rest)) := by
  have hlt : i.toNatClampNeg < n := Nat.not_le.mp fun q => hin (Or.inr q)
  have h0 : ¬ i < 0 := fun q => hin (Or.inl q)
  obtain ⟨cellV, g1, g3, g2⟩ := hv
  obtain ⟨kA, comp, k1, k2, k3, -⟩ := (hK.1.2 t0 _ ht).2
  have hcomp : comp = cellV.cls := Option.some.inj (k3.symm.trans g2)
  subst hcomp
  obtain ⟨kC, hkC, -⟩ := Vm.findClass_spec g2
  refine W.aast hexec hb (hI.1 a _ hM) (fun q h => by cases h) (fun h => by cases h) k1 k2 rfl hkC ⟨h0, by show _ < (arrV _ _ _).slots.size; rw [arrV_size]; exact hlt⟩ g1 (fun q h => by rw [h] at g3; cases g3) hkC (va_asg _ _) rfl rfl hdg fun H1 e z oq => ?_
  refine kk H1 _ (hI.put hM ?_ z oq)
  show H1[a]? = some (vp_cell _ _)
  rw [e]
  rw [vp_cell_q, vp_cell_q, arrV_store]
  congr 2
  funext q
  by_cases hq : q = i.toNatClampNeg
  · subst hq
    simp [updV, va_up, va_rf]
  · simp [updV, va_up, hq]
end QW
/-- the word of a command, -1 for none -/
def s_X3_wordOf (v : qIV) (p1 : Int32) : Int32 := if p1 < 0 then -1 else if v.2.2.2.2.2.1 ≤ p1 then -1 else if 60 ≤ p1 then -1 else v.2.1.getD p1.toNatClampNeg (-1)
theorem va_rf_or2 (r : Option Nat) : va_rf r = .null ∨ ∃ a, va_rf r = .ref a := va_rf_or r
set_option maxHeartbeats 4000000 in
theorem c_X3_wordOf (l : Launch) (D : va_G) (cs : qC) {M0 : qM} {N a : Nat} {v : qIV} (hL0 : qLI cs M0 a v) (p1 : Int32) :
    qMet l D cs yX3_wordOf (qws yX3_wordOf cX3_wordOf 2 (some (.object "QuarryRopes$Word"))) (qRm 0 0) M0 N [.ref a, .int p1] (qRet M0 N (va_rf (qWd cs (s_X3_wordOf v p1)))) 0 0 := by
  refine q_head (by decide +kernel) ?_ (Nat.le_of_ble_eq_true rfl)
  intro p e s m below meth c ls hx hb hret hlk hml hown hnm hg hK hN hI hl
  have hl : lv_has ls 2 [(0, .ref a), (1, .int p1)] := hl
  have hM := hL0.2.2.2.2.1
  refine lv_iload_n hx hb dX3_wordOf_0 rfl (lv_at hl 1 rfl) ?_
  refine lv_if_lt (tgt := 30) hx hb dX3_wordOf_1 (by decide) (fun c1 => ?_) (fun c1 => ?_)
  · refine lv_null hx hb dX3_wordOf_30 ?_
    exact q_aret hx hb hret (Or.inl rfl) hlk hN hI ⟨by rw [s_X3_wordOf, if_pos c1]; rfl, rfl, rfl⟩ dX3_wordOf_31
  · refine lv_iload_n hx hb dX3_wordOf_4 rfl (lv_at hl 1 rfl) ?_
    refine lv_aload_n hx hb dX3_wordOf_5 rfl (lv_at hl 0 rfl) ?_
    refine q_get hx hb hg in_X3 hown hK hI hL0.1 rfl 5 (by decide) (hg _ wf_X3_35) (fun _ h9 => h9) rfl dX3_wordOf_6 ?_
    refine lv_icmp_ge (tgt := 30) hx hb dX3_wordOf_9 (by decide) (fun c2 => ?_) (fun c2 => ?_)
    · refine lv_null hx hb dX3_wordOf_30 ?_
      exact q_aret hx hb hret (Or.inl rfl) hlk hN hI ⟨by rw [s_X3_wordOf, if_neg c1, if_pos c2]; rfl, rfl, rfl⟩ dX3_wordOf_31
    · refine lv_iload_n hx hb dX3_wordOf_12 rfl (lv_at hl 1 rfl) ?_
      refine lv_aload_n hx hb dX3_wordOf_13 rfl (lv_at hl 0 rfl) ?_
      refine q_get hx hb hg in_X3 hown hK hI hL0.1 rfl 1 (by decide) (hg _ wf_X3_17) (fun _ h9 => h9) rfl dX3_wordOf_14 ?_
      refine q_alen hx hb hK hI 2 rfl hM (v := 60) rfl dX3_wordOf_17 ?_
      refine lv_icmp_ge (tgt := 30) hx hb dX3_wordOf_18 (by decide) (fun c3 => ?_) (fun c3 => ?_)
      · refine lv_null hx hb dX3_wordOf_30 ?_
        exact q_aret hx hb hret (Or.inl rfl) hlk hN hI ⟨by rw [s_X3_wordOf, if_neg c1, if_neg c2, if_pos c3]; rfl, rfl, rfl⟩ dX3_wordOf_31
      · refine lv_aload_n hx hb dX3_wordOf_21 rfl (lv_at hl 0 rfl) ?_
        refine q_get hx hb hg in_X3 hown hK hI hL0.1 rfl 1 (by decide) (hg _ wf_X3_17) (fun _ h9 => h9) rfl dX3_wordOf_22 ?_
        refine lv_iload_n hx hb dX3_wordOf_25 rfl (lv_at hl 1 rfl) ?_
        refine q_aald hx hb hK hI 2 rfl hM (q_vpin (L := List.replicate 60 0) (by decide) (q_nlt c1) (q_nle c3)) dX3_wordOf_26 ?_
        refine lv_goto (tgt := 31) hx hb dX3_wordOf_27 (by decide) ?_
        exact q_aret hx hb hret (va_rf_or2 _) hlk hN hI ⟨by rw [s_X3_wordOf, if_neg c1, if_neg c2, if_neg c3], rfl, rfl⟩ dX3_wordOf_31
/-- the place moved on -/
def qPlace (v : qIV) (x : Int32) : qIV := (v.1, v.2.1, v.2.2.1, v.2.2.2.1, v.2.2.2.2.1, v.2.2.2.2.2.1, v.2.2.2.2.2.2 + x)
def s_X3_takeWord_L (v : qIV) : Nat → Nat → Int32 → (Int32 × qIV)
  | 0, _, x => (-1, qPlace v x)
  | n + 1, j, x => if s_X3_sameLetters v (qWt j) = Int32.ofNat (qWt j).length then (nI j, qPlace v (s_X3_sameLetters v (qWt j))) else s_X3_takeWord_L v n (j + 1) (if x < s_X3_sameLetters v (qWt j) then s_X3_sameLetters v (qWt j) else x)
def s_X3_takeWord (v : qIV) : Int32 × qIV := s_X3_takeWord_L v 8 0 0
set_option maxHeartbeats 8000000 in
theorem c_X3_takeWord (l : Launch) (D : va_G) (cs : qC) {N00 : Nat} {M0 : qM} {N a : Nat} {v : qIV} (hd : qDom N00 M0 N) (hL0 : qLI cs M0 a v) :
    qMetZ l D cs N00 yX3_takeWord (qws yX3_takeWord cX3_takeWord 7 (some (.object "QuarryRopes$Word"))) (qRm 5 180) M0 N [.ref a] (qMod N (some (va_rf (qWd cs (s_X3_takeWord v).1))) (fun M' => qLI cs M' a (s_X3_takeWord v).2 ∧ qFr (qIn a 5) M0 M')) 0 0 := by
  obtain ⟨R, hR⟩ : ∃ R, s_X3_takeWord v = R := ⟨_, rfl⟩
  rw [hR]
  rw [s_X3_takeWord] at hR
  refine z_head (by decide +kernel) ?_ (Nat.le_of_ble_eq_true rfl)
  intro p e s m below meth c ls hx hb hret hlk hml hown hnm hg hK hN hZ hI hl
  have hl : lv_has ls 7 [(0, .ref a)] := hl
  refine lv_iconst (v := 0) hx hb dX3_takeWord_0 (by decide) ?_
  refine lv_istore_n (lv' := [(1, .int 0), (0, .ref a)]) hx hb dX3_takeWord_1 rfl hl (by decide) rfl (fun ls hl => ?_)
  refine va_getsN hx hb hZ.2.2.1 (hI.zS hN hd) hown (va_Nw.use rfl (hK.2 _ (List.mem_of_getElem? (i := 42) rfl))) (fun _ h9 => h9) dX3_takeWord_2 ?_
  refine lv_astore_n (lv' := [(2, .ref (cs 64)), (1, .int 0), (0, .ref a)]) hx hb dX3_takeWord_5 rfl hl (by decide) rfl (fun ls hl => ?_)
  refine lv_aload_n hx hb dX3_takeWord_6 rfl (lv_at hl 0 rfl) ?_
  refine va_tlen hx hb hZ.2.2.2.1 (hI.zS hN hd) (v := 8) rfl dX3_takeWord_7 ?_
  refine lv_istore_n (lv' := [(3, .int 8), (2, .ref (cs 64)), (1, .int 0), (0, .ref a)]) hx hb dX3_takeWord_8 rfl hl (by decide) rfl (fun ls hl => ?_)
  refine lv_iconst (v := nI 0) hx hb dX3_takeWord_9 (by decide) ?_
  refine lv_istore (lv' := [(4, .int (nI 0)), (3, .int 8), (2, .ref (cs 64)), (1, .int 0), (0, .ref a)]) hx hb dX3_takeWord_10 hl (by decide) rfl (fun ls hl => ?_)
  have loop : ∀ (n j : Nat), n + j = 8 → ∀ (x : Int32), s_X3_takeWord_L v n j x = R → ∀ (H : Heap) (locs : List Loc) (ls : Array Slot), qI D M0 s.heap M0 N H locs → lv_has ls 7 [(4, .int (nI j)), (1, .int x), (3, .int 8), (2, .ref (cs 64)), (0, .ref a)] →
      W p l e (qRm 5 180) s m [Value.ref a].toArray below meth c H locs 0 0 (MQ below (qQ D M0 N (qMod N (some (va_rf (qWd cs R.1))) (fun M' => qLI cs M' a R.2 ∧ qFr (qIn a 5) M0 M'))) [Value.ref a].toArray s 0 0 (qA M0 N)) (F0 m 12 ls []) := by
    intro n
    induction n with
    | zero =>
      intro j hj x hR H locs ls hI hl
      obtain rfl : j = 8 := by omega
      rw [s_X3_takeWord_L] at hR
      refine lv_iload hx hb dX3_takeWord_12 (lv_at hl 0 rfl) ?_
      refine lv_iload_n hx hb dX3_takeWord_14 rfl (lv_at hl 2 rfl) ?_
      refine lv_icmp_ge (tgt := 75) hx hb dX3_takeWord_15 (by decide) (fun c2 => ?_) (fun c2 => absurd (by decide) c2)
      refine lv_aload_n hx hb dX3_takeWord_75 rfl (lv_at hl 4 rfl) ?_
      refine lv_dup hx hb dX3_takeWord_76 rfl ?_
      refine q_get hx hb hg in_X3 hown hK hI hL0.1 rfl 6 (by decide) (hg _ wf_X3_38) (fun _ h9 => h9) rfl dX3_takeWord_77 ?_
      refine lv_iload_n hx hb dX3_takeWord_80 rfl (lv_at hl 1 rfl) ?_
      refine lv_iadd hx hb dX3_takeWord_81 ?_
      have hn := qLI.i6 (v.2.2.2.2.2.2 + x) hL0
      refine q_put (v := .int (v.2.2.2.2.2.2 + x)) hx hb hg in_X3 tyX3_ok nmX3 hown hK hI hL0.1 rfl 6 (by decide) (hg _ wf_X3_38) (fun _ h9 => h9) rfl rfl rfl (Nat.le_of_ble_eq_true rfl) dX3_takeWord_82 (fun H locs hI => ?_)
      refine lv_null hx hb dX3_takeWord_85 ?_
      exact q_aret hx hb hret (Or.inl rfl) hlk hN hI (by subst hR; exact ⟨by show some Value.null = some (va_rf (qWd cs (-1))); rw [qWd_neg (by decide)]; rfl, ⟨hn, qFr.up (k := 5) (by decide)⟩, rfl⟩) dX3_takeWord_86
    | succ n ih =>
      intro j hj x hR H locs ls hI hl
      have hj8 : j < 8 := by omega
      have hjn : (nI j).toNatClampNeg = j := nI_clamp (by omega)
      rw [s_X3_takeWord_L] at hR
      refine lv_iload hx hb dX3_takeWord_12 (lv_at hl 0 rfl) ?_
      refine lv_iload_n hx hb dX3_takeWord_14 rfl (lv_at hl 2 rfl) ?_
      refine lv_icmp_ge (tgt := 75) hx hb dX3_takeWord_15 (by decide) (fun c2 => absurd c2 (nI_ge (b := 8) hj8 (by decide))) (fun c2 => ?_)
      refine lv_aload_n hx hb dX3_takeWord_18 rfl (lv_at hl 3 rfl) ?_
      refine lv_iload hx hb dX3_takeWord_19 (lv_at hl 0 rfl) ?_
      refine vb_tq hx hb hZ.2.2.2.1 (hI.zS hN hd) (by unfold vp_in; rw [hjn]; intro h; rcases h with h | h; exact nI_pos (by omega) h; omega) (v := .ref (cs (16 + j))) (by rw [hjn]) dX3_takeWord_21 ?_
      refine lv_astore (lv' := [(5, .ref (cs (16 + j))), (4, .int (nI j)), (1, .int x), (3, .int 8), (2, .ref (cs 64)), (0, .ref a)]) hx hb dX3_takeWord_22 hl (by decide) rfl (fun ls hl => ?_)
      refine lv_aload_n hx hb dX3_takeWord_24 rfl (lv_at hl 5 rfl) ?_
      refine lv_aload hx hb dX3_takeWord_25 (lv_at hl 0 rfl) ?_
      refine z_getfN hx hb (hZ.2.1 j hj8).2.2.2.1 (hI.zS hN hd) hown (hK.2 _ (List.mem_of_getElem? (i := 49) rfl)) (fun _ h9 => h9) dX3_takeWord_27 ?_
      refine q_goR (q_runVZ (As := [.ref (cs (32 + j))]) (rest := []) hx hb hml hown hg (c_X3_sameLetters l D cs hd hL0 hj8) v_X3_sameLetters wl_X3_71 rfl rfl ⟨Nat.le_of_ble_eq_true rfl, Nat.le_of_ble_eq_true rfl⟩ hI hK (hI.z hN hd hZ) 4 hL0.1 rfl hl.1 rfl rfl (Nat.le_of_ble_eq_true rfl) dX3_takeWord_30 ⟨Nat.le_of_ble_eq_true rfl, Nat.le_of_ble_eq_true rfl⟩) hI (fun H locs hI => ?_)
      generalize hen : s_X3_sameLetters v (qWt j) = en at hR ⊢
      refine lv_istore (lv' := [(6, .int en), (5, .ref (cs (16 + j))), (4, .int (nI j)), (1, .int x), (3, .int 8), (2, .ref (cs 64)), (0, .ref a)]) hx hb dX3_takeWord_33 hl (by decide) rfl (fun ls hl => ?_)
      refine lv_iload hx hb dX3_takeWord_35 (lv_at hl 0 rfl) ?_
      refine lv_aload hx hb dX3_takeWord_37 (lv_at hl 1 rfl) ?_
      refine z_getfN hx hb (hZ.2.1 j hj8).2.2.2.1 (hI.zS hN hd) hown (hK.2 _ (List.mem_of_getElem? (i := 49) rfl)) (fun _ h9 => h9) dX3_takeWord_39 ?_
      have hq := (hZ.2.1 j hj8).2.2.2.2.q (hI.zS hN hd)
      have hrc : ∃ cell : Cell, H[cs (32 + j)]? = some cell ∧ cell.vm.isStatics = false ∧ s.vm.findClass "java/lang/String" = some cell.cls := by
        obtain ⟨cell, h1, h2, h3, -⟩ := hq.1
        exact ⟨cell, h1, h2, h3⟩
      refine j_go (j_runV (As := []) (rest := [.int en]) hx hb hml hown hg (j_length l) v_J0_length_8abf5 wl_X3_75 rfl rfl ⟨Nat.le_of_ble_eq_true rfl, Nat.le_of_ble_eq_true rfl⟩ (qJS.st.and qStr.st) ⟨hI.js hN hd hZ, hq⟩ hrc hl.1 rfl rfl (Nat.le_of_ble_eq_true rfl) dX3_takeWord_42 ⟨Nat.le_of_ble_eq_true rfl, Nat.le_of_ble_eq_true rfl⟩) ?_
      refine lv_icmp_ne (tgt := 62) hx hb dX3_takeWord_45 (by decide) (fun c3 => ?_) (fun c3 => ?_)
      · rw [if_neg c3] at hR
        refine lv_iload_n hx hb dX3_takeWord_62 rfl (lv_at hl 3 rfl) ?_
        refine lv_iload hx hb dX3_takeWord_63 (lv_at hl 0 rfl) ?_
        refine va_mmax hx hb (hml.trans hl.1.symm) hown (hg _ wl_X3_79) (hg _ wm_max.1) (hg _ wm_ini) (hg _ wm_max.2) (Nat.le_of_ble_eq_true rfl) (Nat.le_of_ble_eq_true rfl) (Nat.le_of_ble_eq_true rfl) (Nat.le_of_ble_eq_true rfl) dX3_takeWord_65 ?_
        refine lv_istore_n (lv' := [(1, .int (if x < en then en else x)), (6, .int en), (5, .ref (cs (16 + j))), (4, .int (nI j)), (3, .int 8), (2, .ref (cs 64)), (0, .ref a)]) hx hb dX3_takeWord_68 rfl hl (by decide) rfl (fun ls hl => ?_)
        refine lv_iinc (v := nI (j + 1)) (lv' := [(4, .int (nI (j + 1))), (1, .int (if x < en then en else x)), (6, .int en), (5, .ref (cs (16 + j))), (3, .int 8), (2, .ref (cs 64)), (0, .ref a)]) hx hb dX3_takeWord_69 hl (k := 3) rfl (by rw [nI_succ]; rfl) (by decide) rfl (fun ls hl => ?_)
        refine lv_goto (tgt := 12) hx hb dX3_takeWord_72 (by decide) ?_
        exact ih (j + 1) (by omega) _ hR H locs ls hI (lv_sub hl [0, 1, 4, 5, 6] rfl)
      · rw [if_pos c3] at hR
        refine lv_aload_n hx hb dX3_takeWord_48 rfl (lv_at hl 6 rfl) ?_
        refine lv_dup hx hb dX3_takeWord_49 rfl ?_
        refine q_get hx hb hg in_X3 hown hK hI hL0.1 rfl 6 (by decide) (hg _ wf_X3_38) (fun _ h9 => h9) rfl dX3_takeWord_50 ?_
        refine lv_iload hx hb dX3_takeWord_53 (lv_at hl 0 rfl) ?_
        refine lv_iadd hx hb dX3_takeWord_55 ?_
        have hn := qLI.i6 (v.2.2.2.2.2.2 + en) hL0
        refine q_put (v := .int (v.2.2.2.2.2.2 + en)) hx hb hg in_X3 tyX3_ok nmX3 hown hK hI hL0.1 rfl 6 (by decide) (hg _ wf_X3_38) (fun _ h9 => h9) rfl rfl rfl (Nat.le_of_ble_eq_true rfl) dX3_takeWord_56 (fun H locs hI => ?_)
        refine lv_aload hx hb dX3_takeWord_59 (lv_at hl 1 rfl) ?_
        exact q_aret hx hb hret (Or.inr ⟨_, rfl⟩) hlk hN hI (by subst hR; exact ⟨by show some (Value.ref (cs (16 + j))) = some (va_rf (qWd cs (nI j))); rw [qWd_nI hj8]; rfl, ⟨hn, qFr.up (k := 5) (by decide)⟩, rfl⟩) dX3_takeWord_61
  exact loop 8 0 rfl 0 hR _ _ _ hI (lv_sub hl [0, 3, 1, 2, 4] rfl)
