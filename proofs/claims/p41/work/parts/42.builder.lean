/-! TEXT BUILDERS: new StringBuilder(), append(String), append(int), toString(): contracts -/
abbrev yEns : MethodName := yJ5_ensureCapacityInternal_d00df
def jSel (U : State) : Prop := va_Nw (.selects "java/lang/StringBuilder" yJ5_ensureCapacityInternal_d00df yJ5_ensureCapacityInternal_d00df) U ∧ va_Nw (.selects "java/lang/StringBuilder" yJ5_newCapacity_0f7a4 yJ5_newCapacity_0f7a4) U ∧ va_Nw (.selects "java/lang/StringBuilder" yJ5_inflateIfNeededFor_a7421 yJ5_inflateIfNeededFor_a7421) U ∧ va_Nw (.selects "java/lang/StringBuilder" yJ5_putStringAt_47b60 yJ5_putStringAt_47b60) U
/-- what text builders want of the statics and of the class tables -/
def jW (N00 : Nat) (cs : qC) (U : State) (H : Heap) : Prop := zJS (qGe0 N00) U H ∧ (va_Z "java/lang/Integer" "DigitOnes" "[B" (.ref (cs 66)) (qGe0 N00) U H ∧ va_T .byte (cs 66) 100 (fun k => .int (nI (48 + k % 10))) (qGe0 N00) U H) ∧ (va_Z "java/lang/Integer" "DigitTens" "[B" (.ref (cs 67)) (qGe0 N00) U H ∧ va_T .byte (cs 67) 100 (fun k => .int (nI (48 + k / 10))) (qGe0 N00) U H) ∧ va_Nw (.castable "[B" "java/lang/Cloneable") U ∧ jSel U
theorem zJS.kept {A : Nat → Prop} {U : State} {H H1 : Heap} (h : zJS A U H) (hq : ∀ a : Nat, a < H.size → ¬ A a → H1[a]? = H[a]?) : zJS A U H1 := ⟨h.1.kept hq, h.2.kept hq⟩
theorem jW.kept {N00 : Nat} {cs : qC} {U : State} {H H1 : Heap} (h : jW N00 cs U H) (hq : ∀ a : Nat, a < H.size → ¬ qGe0 N00 a → H1[a]? = H[a]?) : jW N00 cs U H1 :=
  ⟨h.1.kept hq, ⟨h.2.1.1.kept hq, h.2.1.2.kept hq⟩, ⟨h.2.2.1.1.kept hq, h.2.2.1.2.kept hq⟩, h.2.2.2⟩
theorem va_Nw.warmG {w : Cond} (hw : (w.onTables && w.keeps) = true) {s U : State} (hW : s.WarmedH U.vm) (h : va_Nw w s) : va_Nw w U := word_at hW (Or.inl hw) h
theorem jW.sw {N00 : Nat} {cs : qC} : qSw (jW N00 cs) :=
  ⟨fun u U H hW h => ⟨⟨va_Z.moved hW.alike h.1.1, va_Zq.moved hW.alike h.1.2⟩, ⟨va_Z.moved hW.alike h.2.1.1, va_T.moved hW.alike h.2.1.2⟩, ⟨va_Z.moved hW.alike h.2.2.1.1, va_T.moved hW.alike h.2.2.1.2⟩, va_Nw.warmC hW h.2.2.2.1, va_Nw.warmG rfl hW h.2.2.2.2.1, va_Nw.warmG rfl hW h.2.2.2.2.2.1, va_Nw.warmG rfl hW h.2.2.2.2.2.2.1, va_Nw.warmG rfl hW h.2.2.2.2.2.2.2⟩,
   fun u U H hv h => by
    have ha : u.vm.Alike U.vm := by rw [hv]; exact Vm.Alike.refl U.vm
    exact ⟨⟨va_Z.moved ha h.1.1, va_Zq.moved ha h.1.2⟩, ⟨va_Z.moved ha h.2.1.1, va_T.moved ha h.2.1.2⟩, ⟨va_Z.moved ha h.2.2.1.1, va_T.moved ha h.2.2.1.2⟩, va_Nw.same rfl hv h.2.2.2.1, va_Nw.same rfl hv h.2.2.2.2.1, va_Nw.same rfl hv h.2.2.2.2.2.1, va_Nw.same rfl hv h.2.2.2.2.2.2.1, va_Nw.same rfl hv h.2.2.2.2.2.2.2⟩⟩
theorem zStr.sw {A : Nat → Prop} {a t : Nat} {T : List Int32} : qSw (zStr A a t T) := ⟨fun u U H hW h => h.moved hW.alike, fun u U H hv h => h.moved (by rw [hv]; exact Vm.Alike.refl U.vm)⟩
abbrev jWS (N00 : Nat) (cs : qC) (a t : Nat) (T : List Int32) : State → Heap → Prop := fun U H => jW N00 cs U H ∧ zStr (qGe0 N00) a t T U H
theorem jWS.sw {N00 : Nat} {cs : qC} {a t : Nat} {T : List Int32} : qSw (jWS N00 cs a t T) := jW.sw.and zStr.sw
theorem qI.jw {D : va_G} {M0 M : qM} {N0 N N00 : Nat} {cs : qC} {s : State} {H : Heap} {locs : List Loc} (hI : qI D M0 s.heap M N H locs) (hN : s.heap.size = N0) (hd : qDom N00 M0 N0) (hP : jW N00 cs s s.heap) : jW N00 cs s H := hP.kept (hI.zS hN hd).2.1
theorem qI.jws {D : va_G} {M0 M : qM} {N0 N N00 a t : Nat} {T : List Int32} {cs : qC} {s : State} {H : Heap} {locs : List Loc} (hI : qI D M0 s.heap M N H locs) (hN : s.heap.size = N0) (hd : qDom N00 M0 N0) (hP : jWS N00 cs a t T s s.heap) : jWS N00 cs a t T s H := ⟨hP.1.kept (hI.zS hN hd).2.1, hP.2.kept (hI.zS hN hd).2.1⟩
theorem jW.js {N00 : Nat} {cs : qC} {U : State} {H : Heap} (h : jW N00 cs U H) : qJS U H := ⟨h.1.1.narrow (fun _ z => z.elim), by
  rcases h.1.2 with h | ⟨t, h⟩
  · exact Or.inl (h.narrow (fun _ z => z.elim))
  · exact Or.inr ⟨t, h.narrow (fun _ z => z.elim)⟩⟩
theorem zStr.qs {A : Nat → Prop} {a t : Nat} {T : List Int32} {U : State} {H : Heap} (h : zStr A a t T U H) : qStr a t T U H := ⟨h.1.narrow (fun _ z => z.elim), h.2.1.narrow (fun _ z => z.elim), h.2.2.1.narrow (fun _ z => z.elim), h.2.2.2.narrow (fun _ z => z.elim)⟩
theorem qI.lt {D : va_G} {M0 M : qM} {H0 H : Heap} {N a : Nat} {e : va_E} {locs : List Loc} (h : qI D M0 H0 M N H locs) (hM : M a = some e) : a < N := by
  have h1 := (h.1 a _ hM).lt
  rw [h.2.1] at h1
  exact h1
theorem qUp_tw (M : qM) (a : Nat) (e e' : va_E) : qUp (qUp M a e) a e' = qUp M a e' := by
  funext q
  unfold qUp
  split <;> rfl
/-- a text builder of the model: its text L, count c, room for w at least; all at K and behind -/
def qB (cs : qC) (K w c : Nat) (M : qM) (N b : Nat) (L : List Int32) : Prop := ∃ (v n : Nat) (f : Nat → Int32), (n = 16 ∨ n = 34) ∧ L.length ≤ n ∧ w ≤ n ∧ K ≤ b ∧ K ≤ v ∧ K ≤ N ∧ M b = some (.inr (1, [.ref v, .int 0, .int 0, .int (nI c)])) ∧ M v = some (qbyt cs n f) ∧ (∀ j, j < L.length → f j = L.getD j 0) ∧ sb_Fit f
abbrev qK0 (K : Nat) : Nat → Prop := fun q => K ≤ q
abbrev qRmc (f n mc ms : Nat) : Room := ({ frames := f, cells := mc, slots := ms, locals := n } : Room)
abbrev qRetN (M : qM) (N : Nat) : Option Value → qM → Nat → Prop := fun r M' N' => r = none ∧ M' = M ∧ N' = N
def ds (x : Nat) : List Int32 := if x < 10 then [nI (48 + x)] else [nI (48 + x / 10), nI (48 + x % 10)]
def dg (x : Nat) : Nat := if x < 10 then 1 else 2
theorem ds_len (x : Nat) : (ds x).length = dg x := by
  unfold ds dg
  split <;> rfl
theorem dg_le (x : Nat) : dg x ≤ 2 := by
  unfold dg
  split <;> omega
theorem nI_shr0 (x : Int32) : x >>> ((0 : Int32) &&& 31) = x := sb_shr0 x
theorem nI_shl0 (x : Int32) : x <<< ((0 : Int32) &&& 31) = x := sb_shl0 x
theorem nI_mx {g : Nat} (h : g ≤ 18) : (if nI g < (18 : Int32) then (18 : Int32) else nI g) = 18 := by
  by_cases h2 : g < 18
  · rw [if_pos (show nI g < (18 : Int32) from nI_lt h2 (by decide))]
  · have : g = 18 := by omega
    subst this
    rfl
theorem nI_mn {n m : Nat} (h : m ≤ n) (hn : n < 2 ^ 31) : (if nI m < nI n - 0 then nI m else nI n - 0) = nI m := by
  rw [Int32.sub_zero]
  by_cases h2 : m < n
  · rw [if_pos (nI_lt h2 hn)]
  · have : m = n := by omega
    subst this
    rw [if_neg (show ¬ nI m < nI m by rw [Int32.lt_iff_toInt_lt]; omega)]
theorem q_goNN {p : Program} {l : Launch} {e : Env} {R : Room} {s : State} {m : MethodId} {args : Array Value} {below : List Frame} {meth : Method} {c : Code} {H : Heap} {locs : List Loc} {cells slots : Nat} {Q : State → Prop} {pc : Nat} {ls : Array Slot} {rest st0 : List Value} {D : va_G} {M0 M : qM} {N : Nat} {av : Array Value}
    (hr : va_Run p l e R s m args below meth c H locs cells slots 0 0 (F0 m pc ls st0) rest (qQ D M N (qRetN M N) av) (qA M N)) (hI : qI D M0 s.heap M N H locs)
    (kk : ∀ (H1 : Heap) (locs1 : List Loc), qI D M0 s.heap M N H1 locs1 → W p l e R s m args below meth c H1 locs1 cells slots Q (F0 m (pc + 3) ls rest)) : W p l e R s m args below meth c H locs cells slots Q (F0 m pc ls st0) :=
  q_go hr hI (fun r M' N' H1 locs1 hp hI1 => by
    obtain ⟨rfl, rfl, rfl⟩ := hp
    exact kk H1 locs1 hI1)
section CP
theorem cpy_lo {f g : Nat → Int32} {k n j : Nat} (h : j < k) : va_cpy f g 0 k n j = g j := pk_cpy_out (Or.inl h)
theorem cpy_in {f g : Nat → Int32} {k n j : Nat} (h : j < n) : va_cpy f g 0 k n (k + j) = f j := by
  rw [pk_cpy_in (by omega) (by omega), show 0 + (k + j - k) = j by omega]
theorem cpy_in0 {f g : Nat → Int32} {n j : Nat} (h : j < n) : va_cpy f g 0 0 n j = f j := by
  have := cpy_in (f := f) (g := g) (k := 0) h
  rwa [Nat.zero_add] at this
end CP

set_option maxHeartbeats 4000000 in
theorem c_J5_init (l : Launch) (D : va_G) (cs : qC) {N00 : Nat} {M0 : qM} {N K b : Nat} (hd : qDom N00 M0 N) (hKb : K ≤ b) (hKN : K ≤ N) (hMb : M0 b = some (.inr (1, [.null, .int 0, .int 0, .int 0]))) :
    qMetF l (jW N00 cs) D cs yJ5_init_d00df (qws yJ5_init_d00df cJ5_init_d00df 2 none) (qRmc 1 90 1 16) M0 N [.ref b, .int 16] (fun r M' N' => r = none ∧ qB cs K 16 0 M' N' b [] ∧ qFr (qK0 K) M0 M' ∧ N ≤ N') 1 16 := by
  refine f_head (by decide +kernel) ?_ (Nat.le_of_ble_eq_true rfl)
  intro p e s m below meth c ls hx hb hret hlk hml hown hnm hg hK hN hP hI hl
  have hl : lv_has ls 2 [(0, .ref b), (1, .int 16)] := hl
  have hbN := hI.lt hMb
  refine lv_aload_n hx hb dJ5_init_d00df_0 rfl (lv_at hl 0 rfl) ?_
  refine q_objInit hx hb (hml.trans hl.1.symm) hg hown wx_o5 wo_inst wo_code dJ5_init_d00df_1 (Nat.le_of_ble_eq_true rfl) (Nat.le_of_ble_eq_true rfl) ?_
  refine va_gets hx hb hP.1.1 (hI.zS hN hd) hown (hg _ wf_J5_18) (fun _ h9 => h9) dJ5_init_d00df_4 ?_
  refine lv_if_eq (tgt := 25) hx hb dJ5_init_d00df_7 (by decide) (fun h9 => absurd h9 (by decide)) (fun h9 => ?_)
  refine lv_aload_n hx hb dJ5_init_d00df_10 rfl (lv_at hl 0 rfl) ?_
  refine lv_iload_n hx hb dJ5_init_d00df_11 rfl (lv_at hl 1 rfl) ?_
  refine q_newB hx hb hg hK hI 16 (by decide) (by decide) (Nat.le_of_ble_eq_true rfl) (Nat.le_of_ble_eq_true rfl) (Nat.le_of_ble_eq_true rfl) dJ5_init_d00df_12 (fun H hI => ?_)
  have h1 : qUp M0 N (qbyt cs 16 (fun _ => 0)) b = some (.inr (1, [.null, .int 0, .int 0, .int 0])) := (qUp_ne (by omega)).trans hMb
  refine q_put (v := .ref N) hx hb hg in_J4 tyJ4_ok nmJ4 hown hK hI h1 rfl 0 (by decide) (hg _ wf_J5_15) (fun _ h9 => h9) rfl rfl rfl (Nat.le_of_ble_eq_true rfl) dJ5_init_d00df_14 (fun H locs hI => ?_)
  refine lv_aload_n hx hb dJ5_init_d00df_17 rfl (lv_at hl 0 rfl) ?_
  refine lv_iconst (v := 0) hx hb dJ5_init_d00df_18 (by decide) ?_
  refine q_put (v := .int 0) hx hb hg in_J4 tyJ4_ok nmJ4 hown hK hI (qUp_at _ _ _) rfl 1 (by decide) (hg _ wf_J5_22) (fun _ h9 => h9) rfl rfl rfl (Nat.le_of_ble_eq_true rfl) dJ5_init_d00df_19 (fun H locs hI => ?_)
  refine lv_goto (tgt := 38) hx hb dJ5_init_d00df_22 (by decide) ?_
  exact q_vret (st := []) hx hb hret hlk hN hI ⟨rfl, ⟨N, 16, fun _ => 0, Or.inl rfl, Nat.zero_le _, Nat.le_refl _, hKb, hKN, by omega, qUp_at _ _ _, (qUp_ne (by omega)).trans ((qUp_ne (by omega)).trans (qUp_at _ _ _)), fun j hj => absurd hj (Nat.not_lt_zero j), sb_fit0⟩, fun q hq => (qUp_ne (by omega)).trans ((qUp_ne (by omega)).trans (qUp_ne (by omega))), by omega⟩ dJ5_init_d00df_38
set_option maxHeartbeats 4000000 in
theorem c_J4_init (l : Launch) (D : va_G) (cs : qC) {N00 : Nat} {M0 : qM} {N K b : Nat} (hd : qDom N00 M0 N) (hKb : K ≤ b) (hKN : K ≤ N) (hMb : M0 b = some (.inr (1, [.null, .int 0, .int 0, .int 0]))) :
    qMetF l (jW N00 cs) D cs yJ4_init_da8c8 (qws yJ4_init_da8c8 cJ4_init_da8c8 1 none) (qRmc 2 180 1 16) M0 N [.ref b] (fun r M' N' => r = none ∧ qB cs K 16 0 M' N' b [] ∧ qFr (qK0 K) M0 M' ∧ N ≤ N') 1 16 := by
  refine f_head (by decide +kernel) ?_ (Nat.le_of_ble_eq_true rfl)
  intro p e s m below meth c ls hx hb hret hlk hml hown hnm hg hK hN hP hI hl
  have hl : lv_has ls 1 [(0, .ref b)] := hl
  refine lv_aload_n hx hb dJ4_init_da8c8_0 rfl (lv_at hl 0 rfl) ?_
  refine lv_bipush (v := 16) hx hb dJ4_init_da8c8_1 (by decide) ?_
  refine q_go (f_runI (As := [.int 16]) (rest := []) hx hb hml hown hg (c_J5_init l D cs hd hKb hKN hMb) v_J5_init_d00df wl_J4_1 rfl rfl ⟨Nat.le_of_ble_eq_true rfl, Nat.le_of_ble_eq_true rfl⟩ hI hK jW.sw (hI.jw hN hd hP) hl.1 rfl rfl (Nat.le_of_ble_eq_true rfl) dJ4_init_da8c8_3 ⟨Nat.le_of_ble_eq_true rfl, Nat.le_of_ble_eq_true rfl⟩) hI (fun r M N' H locs hp hI => ?_)
  obtain ⟨rfl, hB, hF, hle⟩ := hp
  exact q_vret (st := []) hx hb hret hlk hN hI ⟨rfl, hB, hF, hle⟩ dJ4_init_da8c8_6
set_option maxHeartbeats 4000000 in
theorem c_J8_newLength (l : Launch) (D : va_G) (cs : qC) {N00 : Nat} {M0 : qM} {N g : Nat} (hd : qDom N00 M0 N) (hg18 : g ≤ 18) :
    qMetF l (jW N00 cs) D cs yJ8_newLength_cabcc (qws yJ8_newLength_cabcc cJ8_newLength_cabcc 4 (some .int)) (qRmc 1 90 0 0) M0 N [.int 16, .int (nI g), .int 18] (qRet M0 N (.int 34)) 0 0 := by
  refine f_head (by decide +kernel) ?_ (Nat.le_of_ble_eq_true rfl)
  intro p e s m below meth c ls hx hb hret hlk hml hown hnm hg hK hN hP hI hl
  have hl : lv_has ls 4 [(0, .int 16), (1, .int (nI g)), (2, .int 18)] := hl
  refine lv_iload_n hx hb dJ8_newLength_cabcc_0 rfl (lv_at hl 0 rfl) ?_
  refine lv_iload_n hx hb dJ8_newLength_cabcc_1 rfl (lv_at hl 1 rfl) ?_
  refine lv_iload_n hx hb dJ8_newLength_cabcc_2 rfl (lv_at hl 2 rfl) ?_
  refine va_mmax hx hb (hml.trans hl.1.symm) hown (hg _ wx_max8) (hg _ wm_max.1) (hg _ wm_ini) (hg _ wm_max.2) (Nat.le_of_ble_eq_true rfl) (Nat.le_of_ble_eq_true rfl) (Nat.le_of_ble_eq_true rfl) (Nat.le_of_ble_eq_true rfl) dJ8_newLength_cabcc_3 ?_
  rw [nI_mx hg18]
  refine lv_iadd hx hb dJ8_newLength_cabcc_6 ?_
  refine lv_istore_n (lv' := [(3, .int (16 + 18)), (0, .int 16), (1, .int (nI g)), (2, .int 18)]) hx hb dJ8_newLength_cabcc_7 rfl hl (by decide) rfl (fun ls hl => ?_)
  refine lv_iconst (v := 0) hx hb dJ8_newLength_cabcc_8 (by decide) ?_
  refine lv_iload_n hx hb dJ8_newLength_cabcc_9 rfl (lv_at hl 0 rfl) ?_
  refine lv_icmp_ge (tgt := 21) hx hb dJ8_newLength_cabcc_10 (by decide) (fun h9 => absurd h9 (by decide)) (fun h9 => ?_)
  refine lv_iload_n hx hb dJ8_newLength_cabcc_13 rfl (lv_at hl 0 rfl) ?_
  refine lv_ldc hx hb hown (hg _ wx_k8) dJ8_newLength_cabcc_14 ?_
  refine lv_icmp_gt (tgt := 21) hx hb dJ8_newLength_cabcc_16 (by decide) (fun h9 => absurd h9 (by decide)) (fun h9 => ?_)
  refine lv_iload_n hx hb dJ8_newLength_cabcc_19 rfl (lv_at hl 0 rfl) ?_
  exact q_iret hx hb hret hlk hN hI ⟨rfl, rfl, rfl⟩ dJ8_newLength_cabcc_20
set_option maxHeartbeats 4000000 in
theorem c_J5_newCapacity (l : Launch) (D : va_G) (cs : qC) {N00 : Nat} {M0 : qM} {N b v w : Nat} (hd : qDom N00 M0 N) {f : Nat → Int32} {ct : Int32} (h16 : 16 < w) (h34 : w ≤ 34) (hMb : M0 b = some (.inr (1, [.ref v, .int 0, .int 0, .int ct]))) (hMv : M0 v = some (qbyt cs 16 f)) :
    qMetF l (jW N00 cs) D cs yJ5_newCapacity_0f7a4 (qws yJ5_newCapacity_0f7a4 cJ5_newCapacity_0f7a4 6 (some .int)) (qRmc 2 180 0 0) M0 N [.ref b, .int (nI w)] (qRet M0 N (.int 34)) 0 0 := by
  refine f_head (by decide +kernel) ?_ (Nat.le_of_ble_eq_true rfl)
  intro p e s m below meth c ls hx hb hret hlk hml hown hnm hg hK hN hP hI hl
  have hl : lv_has ls 6 [(0, .ref b), (1, .int (nI w))] := hl
  refine lv_aload_n hx hb dJ5_newCapacity_0f7a4_0 rfl (lv_at hl 0 rfl) ?_
  refine q_get hx hb hg in_J4 hown hK hI hMb rfl 0 (by decide) (hg _ wf_J5_15) (fun _ h9 => h9) rfl dJ5_newCapacity_0f7a4_1 ?_
  refine q_alen hx hb hK hI 4 rfl hMv (v := 16) rfl dJ5_newCapacity_0f7a4_4 ?_
  refine lv_istore_n (lv' := [(2, .int 16), (0, .ref b), (1, .int (nI w))]) hx hb dJ5_newCapacity_0f7a4_5 rfl hl (by decide) rfl (fun ls hl => ?_)
  refine lv_iload_n hx hb dJ5_newCapacity_0f7a4_6 rfl (lv_at hl 2 rfl) ?_
  refine lv_aload_n hx hb dJ5_newCapacity_0f7a4_7 rfl (lv_at hl 1 rfl) ?_
  refine q_get hx hb hg in_J4 hown hK hI hMb rfl 1 (by decide) (hg _ wf_J5_22) (fun _ h9 => h9) rfl dJ5_newCapacity_0f7a4_8 ?_
  refine lv_ishl hx hb dJ5_newCapacity_0f7a4_11 ?_
  rw [nI_shl0]
  refine lv_istore_n (lv' := [(3, .int (nI w)), (2, .int 16), (0, .ref b), (1, .int (nI w))]) hx hb dJ5_newCapacity_0f7a4_12 rfl hl (by decide) rfl (fun ls hl => ?_)
  refine lv_iload_n hx hb dJ5_newCapacity_0f7a4_13 rfl (lv_at hl 0 rfl) ?_
  refine lv_iload_n hx hb dJ5_newCapacity_0f7a4_14 rfl (lv_at hl 1 rfl) ?_
  refine lv_isub hx hb dJ5_newCapacity_0f7a4_15 ?_
  rw [show nI w - 16 = nI (w - 16) from pk_sub (a := w) (b := 16) (by omega)]
  refine lv_istore (lv' := [(4, .int (nI (w - 16))), (3, .int (nI w)), (2, .int 16), (0, .ref b), (1, .int (nI w))]) hx hb dJ5_newCapacity_0f7a4_16 hl (by decide) rfl (fun ls hl => ?_)
  refine lv_iload_n hx hb dJ5_newCapacity_0f7a4_18 rfl (lv_at hl 2 rfl) ?_
  refine lv_iload hx hb dJ5_newCapacity_0f7a4_19 (lv_at hl 0 rfl) ?_
  refine lv_iload_n hx hb dJ5_newCapacity_0f7a4_21 rfl (lv_at hl 2 rfl) ?_
  refine lv_iconst (v := 2) hx hb dJ5_newCapacity_0f7a4_22 (by decide) ?_
  refine lv_aload_n hx hb dJ5_newCapacity_0f7a4_23 rfl (lv_at hl 3 rfl) ?_
  refine q_get hx hb hg in_J4 hown hK hI hMb rfl 1 (by decide) (hg _ wf_J5_22) (fun _ h9 => h9) rfl dJ5_newCapacity_0f7a4_24 ?_
  refine lv_ishl hx hb dJ5_newCapacity_0f7a4_27 ?_
  rw [nI_shl0]
  refine lv_iadd hx hb dJ5_newCapacity_0f7a4_28 ?_
  rw [show (16 : Int32) + 2 = 18 from rfl]
  refine q_goR (f_runS (As := [.int 16, .int (nI (w - 16)), .int 18]) (rest := []) hx hb hml hown hg (c_J8_newLength l D cs hd (g := w - 16) (by omega)) v_J8_newLength_cabcc wl_J5_114 rfl rfl ⟨Nat.le_of_ble_eq_true rfl, Nat.le_of_ble_eq_true rfl⟩ hI hK jW.sw (hI.jw hN hd hP) hl.1 rfl rfl (Nat.le_of_ble_eq_true rfl) dJ5_newCapacity_0f7a4_29 ⟨Nat.le_of_ble_eq_true rfl, Nat.le_of_ble_eq_true rfl⟩) hI (fun H locs hI => ?_)
  refine lv_istore (lv' := [(5, .int 34), (4, .int (nI (w - 16))), (3, .int (nI w)), (2, .int 16), (0, .ref b), (1, .int (nI w))]) hx hb dJ5_newCapacity_0f7a4_32 hl (by decide) rfl (fun ls hl => ?_)
  refine lv_iload hx hb dJ5_newCapacity_0f7a4_34 (lv_at hl 0 rfl) ?_
  refine lv_ldc hx hb hown (hg _ wx_k5) dJ5_newCapacity_0f7a4_36 ?_
  refine lv_icmp_ne (tgt := 51) hx hb dJ5_newCapacity_0f7a4_38 (by decide) (fun h9 => ?_) (fun h9 => absurd h9 (by decide))
  refine lv_iload hx hb dJ5_newCapacity_0f7a4_51 (lv_at hl 0 rfl) ?_
  refine lv_aload_n hx hb dJ5_newCapacity_0f7a4_53 rfl (lv_at hl 4 rfl) ?_
  refine q_get hx hb hg in_J4 hown hK hI hMb rfl 1 (by decide) (hg _ wf_J5_22) (fun _ h9 => h9) rfl dJ5_newCapacity_0f7a4_54 ?_
  refine lv_ishr hx hb dJ5_newCapacity_0f7a4_57 ?_
  rw [nI_shr0]
  exact q_iret hx hb hret hlk hN hI ⟨rfl, rfl, rfl⟩ dJ5_newCapacity_0f7a4_58
set_option maxHeartbeats 4000000 in
theorem c_J7_copyOf (l : Launch) (D : va_G) (cs : qC) {N00 : Nat} {M0 : qM} {N v : Nat} (hd : qDom N00 M0 N) {f : Nat → Int32} (hMv : M0 v = some (qbyt cs 16 f)) (hfit : sb_Fit f) :
    qMetF l (jW N00 cs) D cs yJ7_copyOf_9075b (qws yJ7_copyOf_9075b cJ7_copyOf_9075b 3 (some (.array .byte))) (qRmc 1 90 1 34) M0 N [.ref v, .int 34] (fun r M' N' => r = some (.ref N) ∧ (∃ f', M' = qUp M0 N (qbyt cs 34 f') ∧ (∀ j, j < 16 → f' j = f j) ∧ sb_Fit f') ∧ N' = N + 1) 1 34 := by
  refine f_head (by decide +kernel) ?_ (Nat.le_of_ble_eq_true rfl)
  intro p e s m below meth c ls hx hb hret hlk hml hown hnm hg hK hN hP hI hl
  have hl : lv_has ls 3 [(0, .ref v), (1, .int 34)] := hl
  have hvN := hI.lt hMv
  refine lv_iload_n hx hb dJ7_copyOf_9075b_0 rfl (lv_at hl 1 rfl) ?_
  refine lv_aload_n hx hb dJ7_copyOf_9075b_1 rfl (lv_at hl 0 rfl) ?_
  refine q_alen hx hb hK hI 4 rfl hMv (v := 16) rfl dJ7_copyOf_9075b_2 ?_
  refine lv_icmp_ne (tgt := 14) hx hb dJ7_copyOf_9075b_3 (by decide) (fun h9 => ?_) (fun h9 => absurd h9 (by decide))
  refine lv_iload_n hx hb dJ7_copyOf_9075b_14 rfl (lv_at hl 1 rfl) ?_
  refine q_newB hx hb hg hK hI 34 (by decide) (by decide) (Nat.le_of_ble_eq_true rfl) (Nat.le_of_ble_eq_true rfl) (Nat.le_of_ble_eq_true rfl) dJ7_copyOf_9075b_15 (fun H hI => ?_)
  have h1 : qUp M0 N (qbyt cs 34 (fun _ => 0)) v = some (qbyt cs 16 f) := (qUp_ne (by omega)).trans hMv
  refine lv_astore_n (lv' := [(2, .ref N), (0, .ref v), (1, .int 34)]) hx hb dJ7_copyOf_9075b_17 rfl hl (by decide) rfl (fun ls hl => ?_)
  refine lv_aload_n hx hb dJ7_copyOf_9075b_18 rfl (lv_at hl 1 rfl) ?_
  refine lv_iconst (v := 0) hx hb dJ7_copyOf_9075b_19 (by decide) ?_
  refine lv_aload_n hx hb dJ7_copyOf_9075b_20 rfl (lv_at hl 0 rfl) ?_
  refine lv_iconst (v := 0) hx hb dJ7_copyOf_9075b_21 (by decide) ?_
  refine lv_aload_n hx hb dJ7_copyOf_9075b_22 rfl (lv_at hl 1 rfl) ?_
  refine q_alen hx hb hK hI 4 rfl h1 (v := 16) rfl dJ7_copyOf_9075b_23 ?_
  refine lv_iload_n hx hb dJ7_copyOf_9075b_24 rfl (lv_at hl 2 rfl) ?_
  refine va_mmin hx hb (hml.trans hl.1.symm) hown (hg _ wx_min7) (hg _ wm_min.1) (hg _ wm_ini) (hg _ wm_min.2) (Nat.le_of_ble_eq_true rfl) (Nat.le_of_ble_eq_true rfl) (Nat.le_of_ble_eq_true rfl) (Nat.le_of_ble_eq_true rfl) dJ7_copyOf_9075b_25 ?_
  rw [show (if (34 : Int32) < 16 then (34 : Int32) else 16) = 16 from rfl]
  refine q_copyT hx hb (hml.trans hl.1.symm) hown (hg _ wx_ac7) (hg _ wx_acN) (hg _ wx_acS) (hg _ wx_iniSys) hK hI (hI.tB hK h1) (qUp_at _ _ _) (by decide) (by decide) (by decide) (by decide) (by decide) (fun i _ => hfit _) (Nat.le_of_ble_eq_true rfl) (Nat.le_of_ble_eq_true rfl) dJ7_copyOf_9075b_28 (fun H locs hI => ?_)
  refine lv_aload_n hx hb dJ7_copyOf_9075b_31 rfl (lv_at hl 0 rfl) ?_
  exact q_nret hx hb hret (Or.inr ⟨_, rfl⟩) (Or.inr ⟨_, rfl⟩) hlk hN hI ⟨rfl, ⟨_, qUp_tw _ _ _ _, fun j hj => cpy_in0 (n := 16) hj, sb_fitC hfit sb_fit0⟩, rfl⟩ dJ7_copyOf_9075b_32
set_option maxHeartbeats 4000000 in
theorem c_J5_ensure (l : Launch) (D : va_G) (cs : qC) {N00 : Nat} {M0 : qM} {N K ct b w : Nat} (hd : qDom N00 M0 N) {L : List Int32} (hw34 : w ≤ 34) (hB : qB cs K 0 ct M0 N b L) :
    qMetF l (jW N00 cs) D cs yJ5_ensureCapacityInternal_d00df (qws yJ5_ensureCapacityInternal_d00df cJ5_ensureCapacityInternal_d00df 3 none) (qRmc 3 270 1 34) M0 N [.ref b, .int (nI w)] (fun r M' N' => r = none ∧ qB cs K w ct M' N' b L ∧ qFr (qK0 K) M0 M' ∧ N ≤ N') 1 34 := by
  refine f_head (by decide +kernel) ?_ (Nat.le_of_ble_eq_true rfl)
  intro p e s m below meth c ls hx hb hret hlk hml hown hnm hg hK hN hP hI hl
  have hl : lv_has ls 3 [(0, .ref b), (1, .int (nI w))] := hl
  obtain ⟨v, n, f, hn, hLn, -, hKb, hKv, hKN, hMb, hMv, hf, hfit⟩ := hB
  have hbN := hI.lt hMb
  refine lv_aload_n hx hb dJ5_ensureCapacityInternal_d00df_0 rfl (lv_at hl 0 rfl) ?_
  refine q_get hx hb hg in_J4 hown hK hI hMb rfl 0 (by decide) (hg _ wf_J5_15) (fun _ h9 => h9) rfl dJ5_ensureCapacityInternal_d00df_1 ?_
  refine q_alen hx hb hK hI 4 rfl hMv (v := nI n) rfl dJ5_ensureCapacityInternal_d00df_4 ?_
  refine lv_aload_n hx hb dJ5_ensureCapacityInternal_d00df_5 rfl (lv_at hl 0 rfl) ?_
  refine q_get hx hb hg in_J4 hown hK hI hMb rfl 1 (by decide) (hg _ wf_J5_22) (fun _ h9 => h9) rfl dJ5_ensureCapacityInternal_d00df_6 ?_
  refine lv_ishr hx hb dJ5_ensureCapacityInternal_d00df_9 ?_
  rw [nI_shr0]
  refine lv_istore_n (lv' := [(2, .int (nI n)), (0, .ref b), (1, .int (nI w))]) hx hb dJ5_ensureCapacityInternal_d00df_10 rfl hl (by decide) rfl (fun ls hl => ?_)
  refine lv_iload_n hx hb dJ5_ensureCapacityInternal_d00df_11 rfl (lv_at hl 2 rfl) ?_
  refine lv_iload_n hx hb dJ5_ensureCapacityInternal_d00df_12 rfl (lv_at hl 0 rfl) ?_
  refine lv_isub hx hb dJ5_ensureCapacityInternal_d00df_13 ?_
  by_cases hw : w ≤ n
  · have hle : nI w - nI n ≤ 0 := by
      rw [Int32.le_iff_toInt_le, pk_sub_toInt (by omega) (by omega)]
      show _ ≤ (0 : Int)
      omega
    refine lv_if_le (tgt := 38) hx hb dJ5_ensureCapacityInternal_d00df_14 (by decide) (fun h9 => ?_) (fun h9 => absurd hle h9)
    refine W.widen (k := 1) (n := 34) (Nat.le_of_ble_eq_true rfl) (Nat.le_of_ble_eq_true rfl) ?_
    exact q_vret (st := []) hx hb hret hlk hN hI ⟨rfl, ⟨v, n, f, hn, hLn, hw, hKb, hKv, hKN, hMb, hMv, hf, hfit⟩, qFr.rf, Nat.le_refl _⟩ dJ5_ensureCapacityInternal_d00df_38
  · have h16 : n = 16 := by omega
    subst h16
    have hle : ¬ nI w - nI 16 ≤ 0 := by
      rw [Int32.le_iff_toInt_le, pk_sub_toInt (by omega) (by omega)]
      show ¬ _ ≤ (0 : Int)
      omega
    refine lv_if_le (tgt := 38) hx hb dJ5_ensureCapacityInternal_d00df_14 (by decide) (fun h9 => absurd h9 hle) (fun h9 => ?_)
    refine lv_aload_n hx hb dJ5_ensureCapacityInternal_d00df_17 rfl (lv_at hl 1 rfl) ?_
    refine lv_aload_n hx hb dJ5_ensureCapacityInternal_d00df_18 rfl (lv_at hl 1 rfl) ?_
    refine q_get hx hb hg in_J4 hown hK hI hMb rfl 0 (by decide) (hg _ wf_J5_15) (fun _ h9 => h9) rfl dJ5_ensureCapacityInternal_d00df_19 ?_
    refine lv_aload_n hx hb dJ5_ensureCapacityInternal_d00df_22 rfl (lv_at hl 1 rfl) ?_
    refine lv_iload_n hx hb dJ5_ensureCapacityInternal_d00df_23 rfl (lv_at hl 2 rfl) ?_
    refine q_goR (f_runU (As := [.int (nI w)]) (rest := [.ref v, .ref b]) hx hb hml hown hg (c_J5_newCapacity l D cs hd (w := w) (by omega) hw34 hMb hMv) v_J5_newCapacity_0f7a4 wl_J5_104 rfl rfl ⟨Nat.le_of_ble_eq_true rfl, Nat.le_of_ble_eq_true rfl⟩ ⟨by decide +kernel, by decide +kernel⟩ rfl sm_J5_newCapacity_0f7a4 (va_Decl.of (hg _ v_J5_newCapacity_0f7a4.2.1) (hg _ v_J5_newCapacity_0f7a4.1)) (va_Nw.use rfl hP.2.2.2.2.2.1) hI hK jW.sw (hI.jw hN hd hP) hMb hl.1 rfl rfl (Nat.le_of_ble_eq_true rfl) dJ5_ensureCapacityInternal_d00df_24 ⟨Nat.le_of_ble_eq_true rfl, Nat.le_of_ble_eq_true rfl⟩) hI (fun H locs hI => ?_)
    refine lv_aload_n hx hb dJ5_ensureCapacityInternal_d00df_27 rfl (lv_at hl 1 rfl) ?_
    refine q_get hx hb hg in_J4 hown hK hI hMb rfl 1 (by decide) (hg _ wf_J5_22) (fun _ h9 => h9) rfl dJ5_ensureCapacityInternal_d00df_28 ?_
    refine lv_ishl hx hb dJ5_ensureCapacityInternal_d00df_31 ?_
    rw [nI_shl0]
    refine q_go (f_runS (As := [.ref v, .int 34]) (rest := [.ref b]) hx hb hml hown hg (c_J7_copyOf l D cs hd hMv hfit) v_J7_copyOf_9075b wl_J5_108 rfl rfl ⟨Nat.le_of_ble_eq_true rfl, Nat.le_of_ble_eq_true rfl⟩ hI hK jW.sw (hI.jw hN hd hP) hl.1 rfl rfl (Nat.le_of_ble_eq_true rfl) dJ5_ensureCapacityInternal_d00df_32 ⟨Nat.le_of_ble_eq_true rfl, Nat.le_of_ble_eq_true rfl⟩) hI (fun r M N' H locs hp hI => ?_)
    obtain ⟨rfl, ⟨f', rfl, hf', hfit'⟩, rfl⟩ := hp
    have h1 : qUp M0 N (qbyt cs 34 f') b = some (.inr (1, [.ref v, .int 0, .int 0, .int (nI ct)])) := (qUp_ne (by omega)).trans hMb
    refine q_put (v := .ref N) hx hb hg in_J4 tyJ4_ok nmJ4 hown hK hI h1 rfl 0 (by decide) (hg _ wf_J5_15) (fun _ h9 => h9) rfl rfl rfl (Nat.le_of_ble_eq_true rfl) dJ5_ensureCapacityInternal_d00df_35 (fun H locs hI => ?_)
    exact q_vret (st := []) hx hb hret hlk hN hI ⟨rfl, ⟨N, 34, f', Or.inr rfl, by omega, hw34, hKb, hKN, by omega, qUp_at _ _ _, (qUp_ne (by omega)).trans (qUp_at _ _ _), fun j hj => (hf' j (by omega)).trans (hf j hj), hfit'⟩, fun q hq => (qUp_ne (by omega)).trans (qUp_ne (by omega)), by omega⟩ dJ5_ensureCapacityInternal_d00df_38
set_option maxHeartbeats 4000000 in
theorem c_J5_inflate (l : Launch) (D : va_G) (cs : qC) {N00 : Nat} {M0 : qM} {N b v a t : Nat} (hd : qDom N00 M0 N) {T : List Int32} {ct : Int32} (hMb : M0 b = some (.inr (1, [.ref v, .int 0, .int 0, .int ct]))) :
    qMetF l (jWS N00 cs a t T) D cs yJ5_inflateIfNeededFor_a7421 (qws yJ5_inflateIfNeededFor_a7421 cJ5_inflateIfNeededFor_a7421 2 none) (qRmc 1 90 0 0) M0 N [.ref b, .ref a] (qRetN M0 N) 0 0 := by
  refine f_head (by decide +kernel) ?_ (Nat.le_of_ble_eq_true rfl)
  intro p e s m below meth c ls hx hb hret hlk hml hown hnm hg hK hN hP hI hl
  have hl : lv_has ls 2 [(0, .ref b), (1, .ref a)] := hl
  refine va_gets hx hb hP.1.1.1 (hI.zS hN hd) hown (hg _ wf_J5_18) (fun _ h9 => h9) dJ5_inflateIfNeededFor_a7421_0 ?_
  refine lv_if_eq (tgt := 21) hx hb dJ5_inflateIfNeededFor_a7421_3 (by decide) (fun h9 => absurd h9 (by decide)) (fun h9 => ?_)
  refine lv_aload_n hx hb dJ5_inflateIfNeededFor_a7421_6 rfl (lv_at hl 0 rfl) ?_
  refine q_get hx hb hg in_J4 hown hK hI hMb rfl 1 (by decide) (hg _ wf_J5_22) (fun _ h9 => h9) rfl dJ5_inflateIfNeededFor_a7421_7 ?_
  refine lv_aload_n hx hb dJ5_inflateIfNeededFor_a7421_10 rfl (lv_at hl 1 rfl) ?_
  have hq := (hI.jws hN hd hP).2.qs
  refine j_go (j_runV (As := []) (rest := [.int 0]) hx hb hml hown hg (j_coder l) v_J0_coder_7d493 wl_J5_40 rfl rfl ⟨Nat.le_of_ble_eq_true rfl, Nat.le_of_ble_eq_true rfl⟩ (qJS.st.and qStr.st) ⟨(hI.jws hN hd hP).1.js, hq⟩ (by obtain ⟨cell, h1, h2, h3, -⟩ := hq.1; exact ⟨cell, h1, h2, h3⟩) hl.1 rfl rfl (Nat.le_of_ble_eq_true rfl) dJ5_inflateIfNeededFor_a7421_11 ⟨Nat.le_of_ble_eq_true rfl, Nat.le_of_ble_eq_true rfl⟩) ?_
  refine lv_icmp_eq (tgt := 21) hx hb dJ5_inflateIfNeededFor_a7421_14 (by decide) (fun h9 => ?_) (fun h9 => absurd rfl h9)
  exact q_vret (st := []) hx hb hret hlk hN hI ⟨rfl, rfl, rfl⟩ dJ5_inflateIfNeededFor_a7421_21
set_option maxHeartbeats 4000000 in
theorem c_J0_getBytes (l : Launch) (D : va_G) (cs : qC) {N00 : Nat} {M0 : qM} {N n v k a t : Nat} (hd : qDom N00 M0 N) {f : Nat → Int32} {T : List Int32} (hn : n = 16 ∨ n = 34) (hkn : k + T.length ≤ n) (hT : sb_Fit (fun j => T.getD j 0)) (hMv : M0 v = some (qbyt cs n f)) :
    qMetF l (jWS N00 cs a t T) D cs yJ0_getBytes_840e7 (qws yJ0_getBytes_840e7 cJ0_getBytes_840e7 4 none) (qRmc 1 90 0 0) M0 N [.ref a, .ref v, .int (nI k), .int 0] (fun r M' N' => r = none ∧ (∃ f', M' = qUp M0 v (qbyt cs n f') ∧ (∀ j, j < k → f' j = f j) ∧ (∀ j, j < T.length → f' (k + j) = T.getD j 0) ∧ (sb_Fit f → sb_Fit f')) ∧ N' = N) 0 0 := by
  refine f_head (by decide +kernel) ?_ (Nat.le_of_ble_eq_true rfl)
  intro p e s m below meth c ls hx hb hret hlk hml hown hnm hg hK hN hP hI hl
  have hl : lv_has ls 4 [(0, .ref a), (1, .ref v), (2, .int (nI k)), (3, .int 0)] := hl
  have hn31 : n ≤ 34 := by omega
  refine lv_aload_n hx hb dJ0_getBytes_840e7_0 rfl (lv_at hl 0 rfl) ?_
  have hq := (hI.jws hN hd hP).2.qs
  refine j_go (j_runV (As := []) (rest := []) hx hb hml hown hg (j_coder l) v_J0_coder_7d493 wl_J0_335 rfl rfl ⟨Nat.le_of_ble_eq_true rfl, Nat.le_of_ble_eq_true rfl⟩ (qJS.st.and qStr.st) ⟨(hI.jws hN hd hP).1.js, hq⟩ (by obtain ⟨cell, h1, h2, h3, -⟩ := hq.1; exact ⟨cell, h1, h2, h3⟩) hl.1 rfl rfl (Nat.le_of_ble_eq_true rfl) dJ0_getBytes_840e7_1 ⟨Nat.le_of_ble_eq_true rfl, Nat.le_of_ble_eq_true rfl⟩) ?_
  refine lv_iload_n hx hb dJ0_getBytes_840e7_4 rfl (lv_at hl 3 rfl) ?_
  refine lv_icmp_ne (tgt := 28) hx hb dJ0_getBytes_840e7_5 (by decide) (fun h9 => absurd rfl h9) (fun h9 => ?_)
  refine lv_aload_n hx hb dJ0_getBytes_840e7_8 rfl (lv_at hl 0 rfl) ?_
  refine vk_getf hx hb hP.2.2.2.1 (hI.zS hN hd) hown (hg _ wf_J0_9) (fun _ h9 => h9) dJ0_getBytes_840e7_9 ?_
  refine lv_iconst (v := 0) hx hb dJ0_getBytes_840e7_12 (by decide) ?_
  refine lv_aload_n hx hb dJ0_getBytes_840e7_13 rfl (lv_at hl 1 rfl) ?_
  refine lv_iload_n hx hb dJ0_getBytes_840e7_14 rfl (lv_at hl 2 rfl) ?_
  refine lv_iload_n hx hb dJ0_getBytes_840e7_15 rfl (lv_at hl 3 rfl) ?_
  refine lv_ishl hx hb dJ0_getBytes_840e7_16 ?_
  rw [nI_shl0]
  refine lv_aload_n hx hb dJ0_getBytes_840e7_17 rfl (lv_at hl 0 rfl) ?_
  refine vk_getf hx hb hP.2.2.2.1 (hI.zS hN hd) hown (hg _ wf_J0_9) (fun _ h9 => h9) dJ0_getBytes_840e7_18 ?_
  refine va_tlen hx hb hP.2.2.2.2 (hI.zS hN hd) (v := nI T.length) rfl dJ0_getBytes_840e7_21 ?_
  refine q_copyT hx hb (hml.trans hl.1.symm) hown (hg _ wx_ac0) (hg _ wx_acN) (hg _ wx_acS) (hg _ wx_iniSys) hK hI (n0 := T.length) (f := fun j => T.getD j 0) hq.2.2.2 hMv (by decide) (nI_pos (by omega)) (nI_pos (by omega)) (by rw [nI_clamp (by omega)]; exact Nat.le_of_eq (Nat.zero_add _)) (by rw [nI_clamp (by omega), nI_clamp (by omega)]; exact hkn) (fun i _ => hT _) (Nat.le_of_ble_eq_true rfl) (Nat.le_of_ble_eq_true rfl) dJ0_getBytes_840e7_22 (fun H locs hI => ?_)
  rw [nI_clamp (by omega), nI_clamp (by omega), show (0 : Int32).toNatClampNeg = 0 from rfl] at hI
  refine lv_goto (tgt := 43) hx hb dJ0_getBytes_840e7_25 (by decide) ?_
  exact q_vret (st := []) hx hb hret hlk hN hI ⟨rfl, ⟨_, rfl, fun j hj => cpy_lo hj, fun j hj => cpy_in hj, fun hf => sb_fitC hT hf⟩, rfl⟩ dJ0_getBytes_840e7_43
set_option maxHeartbeats 4000000 in
theorem c_J5_putStringAt (l : Launch) (D : va_G) (cs : qC) {N00 : Nat} {M0 : qM} {N K ct b a t : Nat} (hd : qDom N00 M0 N) {L T : List Int32} (hT : sb_Fit (fun j => T.getD j 0)) (hB : qB cs K (L.length + T.length) ct M0 N b L) :
    qMetF l (jWS N00 cs a t T) D cs yJ5_putStringAt_47b60 (qws yJ5_putStringAt_47b60 cJ5_putStringAt_47b60 3 none) (qRmc 2 180 0 0) M0 N [.ref b, .int (nI L.length), .ref a] (fun r M' N' => r = none ∧ qB cs K (L.length + T.length) ct M' N' b (L ++ T) ∧ qFr (qK0 K) M0 M' ∧ N' = N) 0 0 := by
  refine f_head (by decide +kernel) ?_ (Nat.le_of_ble_eq_true rfl)
  intro p e s m below meth c ls hx hb hret hlk hml hown hnm hg hK hN hP hI hl
  have hl : lv_has ls 3 [(0, .ref b), (1, .int (nI L.length)), (2, .ref a)] := hl
  obtain ⟨v, n, f, hn, hLn, hwn, hKb, hKv, hKN, hMb, hMv, hf, hfit⟩ := hB
  have hbv : b ≠ v := fun h => by rw [h, hMv] at hMb; cases hMb
  refine lv_aload_n hx hb dJ5_putStringAt_47b60_0 rfl (lv_at hl 0 rfl) ?_
  refine lv_aload_n hx hb dJ5_putStringAt_47b60_1 rfl (lv_at hl 2 rfl) ?_
  refine q_goNN (f_runU (As := [.ref a]) (rest := []) hx hb hml hown hg (c_J5_inflate l D cs hd hMb) v_J5_inflateIfNeededFor_a7421 wl_J5_397 rfl rfl ⟨Nat.le_of_ble_eq_true rfl, Nat.le_of_ble_eq_true rfl⟩ ⟨by decide +kernel, by decide +kernel⟩ rfl sm_J5_inflateIfNeededFor_a7421 (va_Decl.of (hg _ v_J5_inflateIfNeededFor_a7421.2.1) (hg _ v_J5_inflateIfNeededFor_a7421.1)) (va_Nw.use rfl hP.1.2.2.2.2.2.2.1) hI hK jWS.sw (hI.jws hN hd hP) hMb hl.1 rfl rfl (Nat.le_of_ble_eq_true rfl) dJ5_putStringAt_47b60_2 ⟨Nat.le_of_ble_eq_true rfl, Nat.le_of_ble_eq_true rfl⟩) hI (fun H locs hI => ?_)
  refine lv_aload_n hx hb dJ5_putStringAt_47b60_5 rfl (lv_at hl 2 rfl) ?_
  refine lv_aload_n hx hb dJ5_putStringAt_47b60_6 rfl (lv_at hl 0 rfl) ?_
  refine q_get hx hb hg in_J4 hown hK hI hMb rfl 0 (by decide) (hg _ wf_J5_15) (fun _ h9 => h9) rfl dJ5_putStringAt_47b60_7 ?_
  refine lv_iload_n hx hb dJ5_putStringAt_47b60_10 rfl (lv_at hl 1 rfl) ?_
  refine lv_aload_n hx hb dJ5_putStringAt_47b60_11 rfl (lv_at hl 0 rfl) ?_
  refine q_get hx hb hg in_J4 hown hK hI hMb rfl 1 (by decide) (hg _ wf_J5_22) (fun _ h9 => h9) rfl dJ5_putStringAt_47b60_12 ?_
  refine q_go (f_runV (As := [.ref v, .int (nI L.length), .int 0]) (rest := []) hx hb hml hown hg (c_J0_getBytes l D cs hd hn hwn hT hMv) v_J0_getBytes_840e7 wl_J5_399 rfl rfl ⟨Nat.le_of_ble_eq_true rfl, Nat.le_of_ble_eq_true rfl⟩ hI hK jWS.sw (hI.jws hN hd hP) (by obtain ⟨cell, h1, h2, h3, -⟩ := (hI.jws hN hd hP).2.1; exact ⟨cell, h1, h2, h3⟩) hl.1 rfl rfl (Nat.le_of_ble_eq_true rfl) dJ5_putStringAt_47b60_15 ⟨Nat.le_of_ble_eq_true rfl, Nat.le_of_ble_eq_true rfl⟩) hI (fun r M N' H locs hp hI => ?_)
  obtain ⟨rfl, ⟨f', rfl, h1, h2, h3⟩, hNN⟩ := hp
  rw [hNN] at hI
  have hLT : (L ++ T).length = L.length + T.length := List.length_append
  refine q_vret (st := []) hx hb hret hlk hN hI ⟨rfl, ⟨v, n, f', hn, by omega, hwn, hKb, hKv, hKN, (qUp_ne hbv).trans hMb, qUp_at _ _ _, fun j hj => ?_, h3 hfit⟩, fun q hq => qUp_ne (by omega), rfl⟩ dJ5_putStringAt_47b60_18
  by_cases hjL : j < L.length
  · rw [h1 j hjL, hf j hjL]
    simp only [List.getD_eq_getElem?_getD, List.getElem?_append_left hjL]
  · have h4 := h2 (j - L.length) (by omega)
    rw [show L.length + (j - L.length) = j by omega] at h4
    rw [h4]
    simp only [List.getD_eq_getElem?_getD, List.getElem?_append_right (Nat.le_of_not_lt hjL)]
set_option maxHeartbeats 4000000 in
theorem c_J5_appendS (l : Launch) (D : va_G) (cs : qC) {N00 : Nat} {M0 : qM} {N K b a t : Nat} (hd : qDom N00 M0 N) {L T : List Int32} (h34 : L.length + T.length ≤ 34) (hT : sb_Fit (fun j => T.getD j 0)) (hB : qB cs K 0 L.length M0 N b L) :
    qMetF l (jWS N00 cs a t T) D cs yJ5_append_cf1ce (qws yJ5_append_cf1ce cJ5_append_cf1ce 3 (some (.object "java/lang/AbstractStringBuilder"))) (qRmc 4 360 1 34) M0 N [.ref b, .ref a] (fun r M' N' => r = some (.ref b) ∧ qB cs K 0 (L ++ T).length M' N' b (L ++ T) ∧ qFr (qK0 K) M0 M' ∧ N ≤ N') 1 34 := by
  refine f_head (by decide +kernel) ?_ (Nat.le_of_ble_eq_true rfl)
  intro p e s m below meth c ls hx hb hret hlk hml hown hnm hg hK hN hP hI hl
  have hl : lv_has ls 3 [(0, .ref b), (1, .ref a)] := hl
  refine lv_aload_n hx hb dJ5_append_cf1ce_0 rfl (lv_at hl 1 rfl) ?_
  refine lv_ifnonnull (tgt := 9) hx hb dJ5_append_cf1ce_1 (by decide) ?_
  refine lv_aload_n hx hb dJ5_append_cf1ce_9 rfl (lv_at hl 1 rfl) ?_
  have hq := (hI.jws hN hd hP).2.qs
  refine j_go (j_runV (As := []) (rest := []) hx hb hml hown hg (j_length l) v_J0_length_8abf5 wl_J5_32 rfl rfl ⟨Nat.le_of_ble_eq_true rfl, Nat.le_of_ble_eq_true rfl⟩ (qJS.st.and qStr.st) ⟨(hI.jws hN hd hP).1.js, hq⟩ (by obtain ⟨cell, h1, h2, h3, -⟩ := hq.1; exact ⟨cell, h1, h2, h3⟩) hl.1 rfl rfl (Nat.le_of_ble_eq_true rfl) dJ5_append_cf1ce_10 ⟨Nat.le_of_ble_eq_true rfl, Nat.le_of_ble_eq_true rfl⟩) ?_
  show W p l e _ s m _ below meth c _ _ _ _ _ (F0 m 13 ls [.int (nI T.length)])
  obtain ⟨v, n, f, hn, hLn, hwn, hKb, hKv, hKN, hMb, hMv, hf, hfit⟩ := hB
  refine lv_istore_n (lv' := [(2, .int (nI T.length)), (0, .ref b), (1, .ref a)]) hx hb dJ5_append_cf1ce_13 rfl hl (by decide) rfl (fun ls hl => ?_)
  refine lv_aload_n hx hb dJ5_append_cf1ce_14 rfl (lv_at hl 1 rfl) ?_
  refine lv_aload_n hx hb dJ5_append_cf1ce_15 rfl (lv_at hl 1 rfl) ?_
  refine q_get hx hb hg in_J4 hown hK hI hMb rfl 3 (by decide) (hg _ wf_J5_79) (fun _ h9 => h9) rfl dJ5_append_cf1ce_16 ?_
  refine lv_iload_n hx hb dJ5_append_cf1ce_19 rfl (lv_at hl 0 rfl) ?_
  refine lv_iadd hx hb dJ5_append_cf1ce_20 ?_
  rw [nI_add]
  refine q_go (f_runU (As := [.int (nI (L.length + T.length))]) (rest := []) hx hb hml hown hg (c_J5_ensure l D cs hd h34 ⟨v, n, f, hn, hLn, hwn, hKb, hKv, hKN, hMb, hMv, hf, hfit⟩) v_J5_ensureCapacityInternal_d00df wl_J5_100 rfl rfl ⟨Nat.le_of_ble_eq_true rfl, Nat.le_of_ble_eq_true rfl⟩ ⟨by decide +kernel, by decide +kernel⟩ rfl sm_J5_ensureCapacityInternal_d00df (va_Decl.of (hg _ v_J5_ensureCapacityInternal_d00df.2.1) (hg _ v_J5_ensureCapacityInternal_d00df.1)) (va_Nw.use rfl hP.1.2.2.2.2.1) hI hK jW.sw (hI.jws hN hd hP).1 hMb hl.1 rfl rfl (Nat.le_of_ble_eq_true rfl) dJ5_append_cf1ce_21 ⟨Nat.le_of_ble_eq_true rfl, Nat.le_of_ble_eq_true rfl⟩) hI (fun r M N' H locs hp hI => ?_)
  clear hMb hMv hf hfit hn hLn hwn
  obtain ⟨rfl, ⟨v, n, f, hn, hLn, hwn, hKb, hKv, hKN', hMb, hMv, hf, hfit⟩, hF1, hle1⟩ := hp
  refine lv_aload_n hx hb dJ5_append_cf1ce_24 rfl (lv_at hl 1 rfl) ?_
  refine lv_aload_n hx hb dJ5_append_cf1ce_25 rfl (lv_at hl 1 rfl) ?_
  refine q_get hx hb hg in_J4 hown hK hI hMb rfl 3 (by decide) (hg _ wf_J5_79) (fun _ h9 => h9) rfl dJ5_append_cf1ce_26 ?_
  refine lv_aload_n hx hb dJ5_append_cf1ce_29 rfl (lv_at hl 2 rfl) ?_
  refine q_go (f_runU (As := [.int (nI L.length), .ref a]) (rest := []) hx hb hml hown hg (c_J5_putStringAt l D cs (hI.dom hN hd) hT ⟨v, n, f, hn, hLn, hwn, hKb, hKv, hKN', hMb, hMv, hf, hfit⟩) v_J5_putStringAt_47b60 wl_J5_208 rfl rfl ⟨Nat.le_of_ble_eq_true rfl, Nat.le_of_ble_eq_true rfl⟩ ⟨by decide +kernel, by decide +kernel⟩ rfl sm_J5_putStringAt_47b60 (va_Decl.of (hg _ v_J5_putStringAt_47b60.2.1) (hg _ v_J5_putStringAt_47b60.1)) (va_Nw.use rfl hP.1.2.2.2.2.2.2.2) hI hK jWS.sw (hI.jws hN hd hP) hMb hl.1 rfl rfl (Nat.le_of_ble_eq_true rfl) dJ5_append_cf1ce_30 ⟨Nat.le_of_ble_eq_true rfl, Nat.le_of_ble_eq_true rfl⟩) hI (fun r M N' H locs hp hI => ?_)
  clear hMb hMv hf hfit hn hLn hwn
  obtain ⟨rfl, ⟨v, n, f, hn, hLn, hwn, hKb, hKv, hKN', hMb, hMv, hf, hfit⟩, hF2, hNN⟩ := hp
  rw [hNN] at hI hKN'
  refine lv_aload_n hx hb dJ5_append_cf1ce_33 rfl (lv_at hl 1 rfl) ?_
  refine lv_dup hx hb dJ5_append_cf1ce_34 rfl ?_
  refine q_get hx hb hg in_J4 hown hK hI hMb rfl 3 (by decide) (hg _ wf_J5_79) (fun _ h9 => h9) rfl dJ5_append_cf1ce_35 ?_
  refine lv_iload_n hx hb dJ5_append_cf1ce_38 rfl (lv_at hl 0 rfl) ?_
  refine lv_iadd hx hb dJ5_append_cf1ce_39 ?_
  rw [nI_add]
  have hbv : b ≠ v := fun h => by rw [h, hMv] at hMb; cases hMb
  have hLT : (L ++ T).length = L.length + T.length := List.length_append
  refine q_put (v := .int (nI (L.length + T.length))) hx hb hg in_J4 tyJ4_ok nmJ4 hown hK hI hMb rfl 3 (by decide) (hg _ wf_J5_79) (fun _ h9 => h9) rfl rfl rfl (Nat.le_of_ble_eq_true rfl) dJ5_append_cf1ce_40 (fun H locs hI => ?_)
  refine lv_aload_n hx hb dJ5_append_cf1ce_43 rfl (lv_at hl 1 rfl) ?_
  exact q_nret hx hb hret (Or.inl ⟨_, rfl⟩) (Or.inr ⟨_, rfl⟩) hlk hN hI ⟨rfl, ⟨v, n, f, hn, hLn, Nat.zero_le _, hKb, hKv, by omega, by rw [hLT]; exact qUp_at _ _ _, (qUp_ne (Ne.symm hbv)).trans hMv, hf, hfit⟩, (hF1.tr hF2 (fun q hq => hq)).tr (G := qK0 K) (fun q hq => qUp_ne (by omega)) (fun q hq => hq), by omega⟩ dJ5_append_cf1ce_44
set_option maxHeartbeats 4000000 in
theorem c_J4_appendS (l : Launch) (D : va_G) (cs : qC) {N00 : Nat} {M0 : qM} {N K b a t : Nat} (hd : qDom N00 M0 N) {L T : List Int32} (h34 : L.length + T.length ≤ 34) (hT : sb_Fit (fun j => T.getD j 0)) (hB : qB cs K 0 L.length M0 N b L) :
    qMetF l (jWS N00 cs a t T) D cs yJ4_append_15ec4 (qws yJ4_append_15ec4 cJ4_append_15ec4 2 (some (.object "java/lang/StringBuilder"))) (qRmc 5 450 1 34) M0 N [.ref b, .ref a] (fun r M' N' => r = some (.ref b) ∧ qB cs K 0 (L ++ T).length M' N' b (L ++ T) ∧ qFr (qK0 K) M0 M' ∧ N ≤ N') 1 34 := by
  refine f_head (by decide +kernel) ?_ (Nat.le_of_ble_eq_true rfl)
  intro p e s m below meth c ls hx hb hret hlk hml hown hnm hg hK hN hP hI hl
  have hl : lv_has ls 2 [(0, .ref b), (1, .ref a)] := hl
  obtain ⟨v, n, f, hb9⟩ := hB
  refine lv_aload_n hx hb dJ4_append_15ec4_0 rfl (lv_at hl 0 rfl) ?_
  refine lv_aload_n hx hb dJ4_append_15ec4_1 rfl (lv_at hl 1 rfl) ?_
  refine q_go (f_runSU (As := [.ref a]) (rest := []) hx hb hml hown hg (c_J5_appendS l D cs hd h34 hT ⟨v, n, f, hb9⟩) v_J5_append_cf1ce wl_J4_29 rfl rfl ⟨Nat.le_of_ble_eq_true rfl, Nat.le_of_ble_eq_true rfl⟩ sm_J5_append_cf1ce wx_sup (by decide +kernel) hI hK jWS.sw (hI.jws hN hd hP) hb9.2.2.2.2.2.2.1 hl.1 rfl rfl (Nat.le_of_ble_eq_true rfl) dJ4_append_15ec4_2 ⟨Nat.le_of_ble_eq_true rfl, Nat.le_of_ble_eq_true rfl⟩) hI (fun r M N' H locs hp hI => ?_)
  obtain ⟨rfl, hB, hF, hle⟩ := hp
  refine lv_pop hx hb dJ4_append_15ec4_5 rfl ?_
  refine lv_aload_n hx hb dJ4_append_15ec4_6 rfl (lv_at hl 0 rfl) ?_
  exact q_nret hx hb hret (Or.inl ⟨_, rfl⟩) (Or.inr ⟨_, rfl⟩) hlk hN hI ⟨rfl, hB, hF, hle⟩ dJ4_append_15ec4_7
