/-! LAW: reads -/
theorem qI.aS {D : va_G} {M0 M : qM} {H0 H : Heap} {N0 N : Nat} {locs : List Loc} (hI : qI D M0 H0 M N H locs) (hN : H0.size = N0) : va_S (qA M0 N0) H0 H locs := by
  subst hN
  exact ⟨hI.2.2.2.1, hI.2.2.2.2.1, hI.2.2.2.2.2⟩
section QMP
variable {p : Program} {l : Launch} {e : Env} {R : Room} {s : State} {m : MethodId} {args : Array Value} {below : List Frame} {meth : Method} {c : Code} {H : Heap} {locs : List Loc} {cells slots : Nat} {Q : State → Prop}
variable {cc : ByteArray} {pc : Nat} {ls : Array Slot} {rest : List Value} {D : va_G} {cs : qC} {M0 M : qM} {N a N00 : Nat} {P : State → Heap → Prop}
variable {y : MethodName} {bytes : ByteArray} {maxL nL mc ms n index : Nat} {ret : Option FieldType} {rm : Room} {own host : String} {b : Nat} {As st0 : List Value} {post : Option Value → qM → Nat → Prop}
abbrev qPcP (P : State → Heap → Prop) (D : va_G) (cs : qC) (N00 : Nat) (M : qM) (N : Nat) (av : List Value) : Array Value → State → Prop := fun v U => qPcZ D cs N00 M N av v U ∧ P U U.heap
/-- as qMetZ, with a fact P more of the heap outside the model -/
abbrev qMetP (l : Launch) (P : State → Heap → Prop) (D : va_G) (cs : qC) (N00 : Nat) (y : MethodName) (ws : List Cond) (rm : Room) (M : qM) (N : Nat) (av : List Value) (post : Option Value → qM → Nat → Prop) (mc ms : Nat) : Prop :=
  Met l y ws rm (qPcP P D cs N00 M N av) (qQ D M N post) mc ms (qA M N)
theorem qPcP_blind {av : List Value} (hP : qSt P) : FrameBlind (qPcP P D cs N00 M N av) := fun a U g mk q => ⟨qPcZ_blind a U g mk q.1, hP U (U.calling g mk a) _ (Vm.Alike.refl U.vm) q.2⟩
theorem q_runSP (hx : p.tables.exec = Jvm.exec) (hb : c.code = cc) (hml : c.maxLocals = nL) (hown : s.vm.findClass own = some m.cls) (hg : ∀ w ∈ qG, w.before args s = true)
    (hM : qMetP l P D cs N00 y (qws y bytes maxL ret) rm M N As post mc ms) (v : qSm y bytes maxL ret n) (hl : Cond.methodLink own index y ∈ qG) (hrc : rm.cells = mc) (hrs : rm.slots = ms) (hR : rm.frames + 1 ≤ R.frames ∧ 8 + (maxL + 11) + rm.locals ≤ R.locals)
    (hI : qI D M0 s.heap M N H locs) (hK : qK D cs s) (hz : zP N00 cs s H) (hP : qSt P) (hp : P s H)
    (hls : ls.size = nL) (hn : As.length = n) (hst : st0 = As.reverse ++ rest) (hcat : (rest.map fun v => v.category).sum ≤ 8) (hdg : decode cc pc = .ok (.invokestatic index, 3)) (hf : cells + mc ≤ R.cells ∧ slots + ms ≤ R.slots) :
    va_Run p l e R s m args below meth c H locs cells slots mc ms (F0 m pc ls st0) rest (qQ D M N post As.toArray) (qA M N) :=
  va_runS (As := As) (rest := rest) ⟨hx, hb, hml, hown, hg⟩ hM (va_cwS n hg (qG_wsS v hl) rfl hrc hrs v.2.2.2 hR) ⟨qPcP_blind hP, fun U hU hW => ⟨⟨(q_pre hI hK).2 U hU hW, zP.st s U _ hW.alike (by rw [hU]; exact hz)⟩, hP s U _ hW.alike (by rw [hU]; exact hp)⟩⟩ rfl hn hls hst (lv_room hcat) hdg hf
theorem p_head {av : List Value} (hy : plainName y.cls = true)
    (body : ∀ (p : Program) (e : Env) (s : State) (m : MethodId) (below : List Frame) (meth : Method) (c : Code) (ls : Array Slot), p.tables.exec = Jvm.exec → c.code = bytes → meth.sig.returnType = ret → meth.locks = false → c.maxLocals = maxL → s.vm.findClass y.cls = some m.cls → meth.name = y.name → (∀ w ∈ qG, w.before av.toArray s = true) → qK D cs s → s.heap.size = N → zP N00 cs s s.heap → P s s.heap → qI D M s.heap M N s.heap [] → lv_has ls maxL (lv_args 0 av) →
      W p l e rm s m av.toArray below meth c s.heap [] 0 0 (MQ below (qQ D M N post) av.toArray s mc ms (qA M N)) (F0 m 0 ls [])) (hlen : (lg_sl av).length ≤ maxL) :
    qMetP l P D cs N00 y (qws y bytes maxL ret) rm M N av post mc ms := by
  refine Met.ofW (cc := bytes) (maxL := maxL) (ret := ret) hy rfl ?_
  intro p e s m args below meth c s₁ B hml hv
  have hI := qI.start hv.1.1
  obtain ⟨⟨⟨rfl, -, hK, hN⟩, hZ⟩, hP⟩ := hv
  have hts := atoms_spec (ws := qws y bytes maxL ret) B.pre
  rw [lg_entry_eq]
  exact body p e s m below meth c _ B.exec B.bytes B.returns B.notSynchronized hml (findClass_of_methodNamed B.named) (name_of_methodNamed B.named B.method).1 (fun w h => hts w (List.mem_cons_of_mem _ h)) hK hN hZ hP hI (lv_entry av hlen)
end QMP
abbrev qRd := Int32 × (Int32 × Int32) × qQV × qHV × qIV × qRV
def s_reads_L (L : List Int32) (f : Int32 × Int32) (q : qQV) (h : qHV) (rs : qRV) : Nat → Nat → qIV → qRd
  | 0, _, i => s_X10_read f q h i rs
  | m + 1, j, i => if (s_X10_append f i (qch (L.getD j 0))).1 = nI (j + 1) then s_reads_L L f q h rs m (j + 1) (s_X10_append f i (qch (L.getD j 0))).2 else ((-99), f, q, h, (s_X10_append f i (qch (L.getD j 0))).2, rs)
def s_L_reads (L : List Int32) (f : Int32 × Int32) (q : qQV) (h : qHV) (i : qIV) (rs : qRV) : qRd := s_reads_L L f q h rs L.length 0 i
theorem q_rd6 {A B C D E G : Type} {x : A} {y : B} {z : C} {w : D} {u : E} {v : G} {R : A × B × C × D × E × G} (h : (x, y, z, w, u, v) = R) : R.1 = x ∧ R.2.1 = y ∧ R.2.2.1 = z ∧ R.2.2.2.1 = w ∧ R.2.2.2.2.1 = u ∧ R.2.2.2.2.2 = v := by
  subst h
  exact ⟨rfl, rfl, rfl, rfl, rfl, rfl⟩
set_option maxHeartbeats 8000000 in
theorem c_L_reads (l : Launch) (D : va_G) (cs : qC) {N00 : Nat} {M0 : qM} {N a b t : Nat} {L : List Int32} {f : (Int32 × Int32)} {q : qQV} {h : qHV} {i : qIV} {rs : qRV} (hd : qDom N00 M0 N) (hL31 : L.length < 2 ^ 31) (hL0 : qLX cs M0 a f) (hL1 : qLQ cs M0 (a + 1) q) (hL2 : qLH cs M0 (a + 40) h) (hL3 : qLI cs M0 (a + 159) i) (hL4 : qLR cs M0 (a + 166) rs) :
    qMetP l (fun U H => zStr (qA M0 N) b t L U H) D cs N00 yL_reads (qws yL_reads cL_reads 3 (some .int)) (qRm 10 350) M0 N [.ref a, .ref b] (qMod N (some (.int (s_L_reads L f q h i rs).1)) (fun M' => qLX cs M' a (s_L_reads L f q h i rs).2.1 ∧ qLQ cs M' (a + 1) (s_L_reads L f q h i rs).2.2.1 ∧ qLH cs M' (a + 40) (s_L_reads L f q h i rs).2.2.2.1 ∧ qLI cs M' (a + 159) (s_L_reads L f q h i rs).2.2.2.2.1 ∧ qLR cs M' (a + 166) (s_L_reads L f q h i rs).2.2.2.2.2 ∧ qFr (fun q => qIn a 1 q ∨ qIn (a + 1) 13 q ∨ qIn (a + 40) 119 q ∨ qIn (a + 159) 5 q ∨ qIn (a + 166) 1 q) M0 M')) 0 0 := by
  obtain ⟨R, hR⟩ : ∃ R, s_L_reads L f q h i rs = R := ⟨_, rfl⟩
  rw [hR]
  rw [s_L_reads] at hR
  refine p_head (by decide +kernel) ?_ (Nat.le_of_ble_eq_true rfl)
  intro p e s m below meth c ls hx hb hret hlk hml hown hnm hg hK hN hZ hStr hI hl
  have hl : lv_has ls 3 [(0, .ref a), (1, .ref b)] := hl
  have hS : qFr (fun q => qIn a 1 q ∨ qIn (a + 1) 13 q ∨ qIn (a + 40) 119 q ∨ qIn (a + 159) 5 q ∨ qIn (a + 166) 1 q) M0 M0 := qFr.rf
  refine lv_iconst (v := nI 0) hx hb dL_reads_0 (by decide) ?_
  refine lv_istore_n (lv' := [(2, .int (nI 0)), (0, .ref a), (1, .ref b)]) hx hb dL_reads_1 rfl hl (by decide) rfl (fun ls hl => ?_)
  have loop : ∀ (n j : Nat), n + j = L.length → ∀ (i : qIV), s_reads_L L f q h rs n j i = R → ∀ (M : qM) (H : Heap) (locs : List Loc) (ls : Array Slot), qLX cs M a f → qLQ cs M (a + 1) q → qLH cs M (a + 40) h → qLI cs M (a + 159) i → qLR cs M (a + 166) rs → qFr (fun q => qIn a 1 q ∨ qIn (a + 1) 13 q ∨ qIn (a + 40) 119 q ∨ qIn (a + 159) 5 q ∨ qIn (a + 166) 1 q) M0 M → qI D M0 s.heap M N H locs → lv_has ls 3 [(2, .int (nI j)), (0, .ref a), (1, .ref b)] →
      W p l e (qRm 10 350) s m [Value.ref a, Value.ref b].toArray below meth c H locs 0 0 (MQ below (qQ D M0 N (qMod N (some (.int R.1)) (fun M' => qLX cs M' a R.2.1 ∧ qLQ cs M' (a + 1) R.2.2.1 ∧ qLH cs M' (a + 40) R.2.2.2.1 ∧ qLI cs M' (a + 159) R.2.2.2.2.1 ∧ qLR cs M' (a + 166) R.2.2.2.2.2 ∧ qFr (fun q => qIn a 1 q ∨ qIn (a + 1) 13 q ∨ qIn (a + 40) 119 q ∨ qIn (a + 159) 5 q ∨ qIn (a + 166) 1 q) M0 M'))) [Value.ref a, Value.ref b].toArray s 0 0 (qA M0 N)) (F0 m 2 ls []) := by
    intro n
    induction n with
    | zero =>
      intro j hj i hR M H locs ls hL0 hL1 hL2 hL3 hL4 hS hI hl
      have ej : L.length = j := by omega
      rw [s_reads_L] at hR
      have hq := hStr.q (hI.aS hN)
      have hrc : ∃ cell : Cell, H[b]? = some cell ∧ cell.vm.isStatics = false ∧ s.vm.findClass "java/lang/String" = some cell.cls := by
        obtain ⟨cell, h1, h2, h3, -⟩ := hq.1
        exact ⟨cell, h1, h2, h3⟩
      refine lv_iload_n hx hb dL_reads_2 rfl (lv_at hl 0 rfl) ?_
      refine lv_aload_n hx hb dL_reads_3 rfl (lv_at hl 2 rfl) ?_
      refine j_go (j_runV (As := []) (rest := [.int (nI j)]) hx hb hml hown hg (j_length l) v_J0_length_8abf5 wl_L_7 rfl rfl ⟨Nat.le_of_ble_eq_true rfl, Nat.le_of_ble_eq_true rfl⟩ (qJS.st.and qStr.st) ⟨hI.js hN hd hZ, hq⟩ hrc hl.1 rfl rfl (Nat.le_of_ble_eq_true rfl) dL_reads_4 ⟨Nat.le_of_ble_eq_true rfl, Nat.le_of_ble_eq_true rfl⟩) ?_
      refine lv_icmp_ge (tgt := 34) hx hb dL_reads_7 (by decide) (fun c2 => ?_) (fun c2 => absurd (by rw [ej]; exact Int32.le_refl _) c2)
      refine lv_aload_n hx hb dL_reads_34 rfl (lv_at hl 1 rfl) ?_
      refine q_goP (q_runVZ (As := []) (rest := []) hx hb hml hown hg (c_X10_read l D cs (hI.dom hN hd) hL0 hL1 hL2 hL3 hL4) v_X10_read wl_L_23 rfl rfl ⟨Nat.le_of_ble_eq_true rfl, Nat.le_of_ble_eq_true rfl⟩ hI hK (hI.z hN hd hZ) 10 hL0 rfl hl.1 rfl rfl (Nat.le_of_ble_eq_true rfl) dL_reads_35 ⟨Nat.le_of_ble_eq_true rfl, Nat.le_of_ble_eq_true rfl⟩) hI (fun M H locs hp hI => ?_)
      rw [hR] at hp ⊢
      obtain ⟨hL0, hL1, hL2, hL3, hL4, hF⟩ := hp
      have hS := hS.tr hF (fun q hq => hq)
      exact q_iret hx hb hret hlk hN hI ⟨rfl, ⟨hL0, hL1, hL2, hL3, hL4, hS⟩, rfl⟩ dL_reads_38
    | succ n ih =>
      intro j hj i hR M H locs ls hL0 hL1 hL2 hL3 hL4 hS hI hl
      rw [s_reads_L] at hR
      have hq := hStr.q (hI.aS hN)
      have hrc : ∃ cell : Cell, H[b]? = some cell ∧ cell.vm.isStatics = false ∧ s.vm.findClass "java/lang/String" = some cell.cls := by
        obtain ⟨cell, h1, h2, h3, -⟩ := hq.1
        exact ⟨cell, h1, h2, h3⟩
      refine lv_iload_n hx hb dL_reads_2 rfl (lv_at hl 0 rfl) ?_
      refine lv_aload_n hx hb dL_reads_3 rfl (lv_at hl 2 rfl) ?_
      refine j_go (j_runV (As := []) (rest := [.int (nI j)]) hx hb hml hown hg (j_length l) v_J0_length_8abf5 wl_L_7 rfl rfl ⟨Nat.le_of_ble_eq_true rfl, Nat.le_of_ble_eq_true rfl⟩ (qJS.st.and qStr.st) ⟨hI.js hN hd hZ, hq⟩ hrc hl.1 rfl rfl (Nat.le_of_ble_eq_true rfl) dL_reads_4 ⟨Nat.le_of_ble_eq_true rfl, Nat.le_of_ble_eq_true rfl⟩) ?_
      refine lv_icmp_ge (tgt := 34) hx hb dL_reads_7 (by decide) (fun c2 => absurd c2 (nI_ge (b := L.length) (by omega) hL31)) (fun c2 => ?_)
      refine lv_aload_n hx hb dL_reads_10 rfl (lv_at hl 1 rfl) ?_
      refine lv_aload_n hx hb dL_reads_11 rfl (lv_at hl 2 rfl) ?_
      refine lv_iload_n hx hb dL_reads_12 rfl (lv_at hl 0 rfl) ?_
      refine j_go (j_runV (As := [.int (nI j)]) (rest := [.ref a]) hx hb hml hown hg (j_charAt l (nI_pos (by omega)) (q_nle c2) hL31) v_J0_charAt_5068e wl_L_13 rfl rfl ⟨Nat.le_of_ble_eq_true rfl, Nat.le_of_ble_eq_true rfl⟩ (qJS.st.and qStr.st) ⟨hI.js hN hd hZ, hq⟩ hrc hl.1 rfl rfl (Nat.le_of_ble_eq_true rfl) dL_reads_13 ⟨Nat.le_of_ble_eq_true rfl, Nat.le_of_ble_eq_true rfl⟩) ?_
      rw [nI_clamp (by omega)]
      refine q_goP (q_runV (As := [.int (qch (L.getD j 0))]) (rest := []) hx hb hml hown hg (c_X10_append l D cs hL0 hL3 (qch (L.getD j 0))) v_X10_append wl_L_17 rfl rfl ⟨Nat.le_of_ble_eq_true rfl, Nat.le_of_ble_eq_true rfl⟩ hI hK 10 hL0 rfl hl.1 rfl rfl (Nat.le_of_ble_eq_true rfl) dL_reads_16 ⟨Nat.le_of_ble_eq_true rfl, Nat.le_of_ble_eq_true rfl⟩) hI (fun M H locs hp hI => ?_)
      obtain ⟨hL3, hF⟩ := hp
      generalize heg : s_X10_append f i (qch (L.getD j 0)) = r at hL3 hR ⊢
      have hL0 := hL0.fr hF (fun q h1 h2 hq => by omega)
      have hL1 := hL1.fr hF (fun q h1 h2 hq => by omega)
      have hL2 := hL2.fr hF (fun q h1 h2 hq => by omega)
      have hL4 := hL4.fr hF (fun q h1 h2 hq => by omega)
      have hS := hS.tr hF (fun q hq => by omega)
      refine lv_iload_n hx hb dL_reads_19 rfl (lv_at hl 0 rfl) ?_
      refine lv_iconst (v := nI 1) hx hb dL_reads_20 (by decide) ?_
      refine lv_iadd hx hb dL_reads_21 ?_
      rw [nI_add]
      refine lv_icmp_eq (tgt := 28) hx hb dL_reads_22 (by decide) (fun c3 => ?_) (fun c3 => ?_)
      · rw [if_pos c3] at hR
        refine lv_iinc (v := nI (j + 1)) (lv' := [(2, .int (nI (j + 1))), (0, .ref a), (1, .ref b)]) hx hb dL_reads_28 hl (k := 0) rfl (by rw [nI_succ]; rfl) (by decide) rfl (fun ls hl => ?_)
        refine lv_goto (tgt := 2) hx hb dL_reads_31 (by decide) ?_
        exact ih (j + 1) (by omega) r.2 hR M H locs ls hL0 hL1 hL2 hL3 hL4 hS hI hl
      · rw [if_neg c3] at hR
        refine lv_bipush (v := (-99)) hx hb dL_reads_25 (by decide) ?_
        exact q_iret hx hb hret hlk hN hI (by obtain ⟨e1, e2, e3, e4, e5, e6⟩ := q_rd6 hR; exact ⟨by rw [e1], ⟨by rw [e2]; exact hL0, by rw [e3]; exact hL1, by rw [e4]; exact hL2, by rw [e5]; exact hL3, by rw [e6]; exact hL4, hS⟩, rfl⟩) dL_reads_27
  exact loop L.length 0 rfl _ hR M0 _ _ ls hL0 hL1 hL2 hL3 hL4 hS hI hl
