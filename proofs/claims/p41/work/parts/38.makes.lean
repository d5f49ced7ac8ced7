/-! LAW: makes -/
section QMS
variable {p : Program} {l : Launch} {e : Env} {R : Room} {s : State} {m : MethodId} {args : Array Value} {below : List Frame} {meth : Method} {c : Code} {H : Heap} {locs : List Loc} {cells slots : Nat} {Q : State → Prop}
variable {cc : ByteArray} {pc : Nat} {ls : Array Slot} {rest : List Value} {D : va_G} {cs : qC} {M0 M : qM} {N a N00 : Nat} {t nn : Nat} {g : Nat → Int32}
variable {y : MethodName} {bytes : ByteArray} {maxL nL mc ms n index : Nat} {ret : Option FieldType} {rm : Room} {own host : String} {b : Nat} {As st0 : List Value} {post : Option Value → qM → Nat → Prop}
abbrev qPcS (D : va_G) (cs : qC) (N00 t nn : Nat) (g : Nat → Int32) (M : qM) (N : Nat) (av : List Value) : Array Value → State → Prop := fun v U => qPc D cs M N av v U ∧ qSc t nn g (qGe0 N00) U U.heap
/-- as qMetZ, with a script in place of the words -/
abbrev qMetS (l : Launch) (D : va_G) (cs : qC) (N00 t nn : Nat) (g : Nat → Int32) (y : MethodName) (ws : List Cond) (rm : Room) (M : qM) (N : Nat) (av : List Value) (post : Option Value → qM → Nat → Prop) (mc ms : Nat) : Prop :=
  Met l y ws rm (qPcS D cs N00 t nn g M N av) (qQ D M N post) mc ms (qA M N)
theorem qPcS_blind {av : List Value} : FrameBlind (qPcS D cs N00 t nn g M N av) := fun a U g mk q => ⟨qPc_blind a U g mk q.1, va_T.moved (Vm.Alike.refl U.vm) q.2⟩
theorem q_runSS (hx : p.tables.exec = Jvm.exec) (hb : c.code = cc) (hml : c.maxLocals = nL) (hown : s.vm.findClass own = some m.cls) (hg : ∀ w ∈ qG, w.before args s = true)
    (hM : qMetS l D cs N00 t nn g y (qws y bytes maxL ret) rm M N As post mc ms) (v : qSm y bytes maxL ret n) (hl : Cond.methodLink own index y ∈ qG) (hrc : rm.cells = mc) (hrs : rm.slots = ms) (hR : rm.frames + 1 ≤ R.frames ∧ 8 + (maxL + 11) + rm.locals ≤ R.locals)
    (hI : qI D M0 s.heap M N H locs) (hK : qK D cs s) (hz : qSc t nn g (qGe0 N00) s H)
    (hls : ls.size = nL) (hn : As.length = n) (hst : st0 = As.reverse ++ rest) (hcat : (rest.map fun v => v.category).sum ≤ 8) (hdg : decode cc pc = .ok (.invokestatic index, 3)) (hf : cells + mc ≤ R.cells ∧ slots + ms ≤ R.slots) :
    va_Run p l e R s m args below meth c H locs cells slots mc ms (F0 m pc ls st0) rest (qQ D M N post As.toArray) (qA M N) :=
  va_runS (As := As) (rest := rest) ⟨hx, hb, hml, hown, hg⟩ hM (va_cwS n hg (qG_wsS v hl) rfl hrc hrs v.2.2.2 hR) ⟨qPcS_blind, fun U hU hW => ⟨(q_pre hI hK).2 U hU hW, va_T.moved hW.alike (by rw [hU]; exact hz)⟩⟩ rfl hn hls hst (lv_room hcat) hdg hf
theorem s_head {av : List Value} (hy : plainName y.cls = true)
    (body : ∀ (p : Program) (e : Env) (s : State) (m : MethodId) (below : List Frame) (meth : Method) (c : Code) (ls : Array Slot), p.tables.exec = Jvm.exec → c.code = bytes → meth.sig.returnType = ret → meth.locks = false → c.maxLocals = maxL → s.vm.findClass y.cls = some m.cls → meth.name = y.name → (∀ w ∈ qG, w.before av.toArray s = true) → qK D cs s → s.heap.size = N → qSc t nn g (qGe0 N00) s s.heap → qI D M s.heap M N s.heap [] → lv_has ls maxL (lv_args 0 av) →
      W p l e rm s m av.toArray below meth c s.heap [] 0 0 (MQ below (qQ D M N post) av.toArray s mc ms (qA M N)) (F0 m 0 ls [])) (hlen : (lg_sl av).length ≤ maxL) :
    qMetS l D cs N00 t nn g y (qws y bytes maxL ret) rm M N av post mc ms := by
  refine Met.ofW (cc := bytes) (maxL := maxL) (ret := ret) hy rfl ?_
  intro p e s m args below meth c s₁ B hml hv
  have hI := qI.start hv.1
  obtain ⟨⟨rfl, -, hK, hN⟩, hZ⟩ := hv
  have hts := atoms_spec (ws := qws y bytes maxL ret) B.pre
  rw [lg_entry_eq]
  exact body p e s m below meth c _ B.exec B.bytes B.returns B.notSynchronized hml (findClass_of_methodNamed B.named) (name_of_methodNamed B.named B.method).1 (fun w h => hts w (List.mem_cons_of_mem _ h)) hK hN hZ hI (lv_entry av hlen)
end QMS
theorem q_7919 : (Int16.ofInt 7919).toInt32 = (7919 : Int32) := by decide +kernel
abbrev qMk := Bool × qQV × qHV × qRV
theorem q_mk4 {A B C D : Type} {x : A} {y : B} {z : C} {w : D} {R : A × B × C × D} (h : (x, y, z, w) = R) : R.1 = x ∧ R.2.1 = y ∧ R.2.2.1 = z ∧ R.2.2.2 = w := by
  subst h
  exact ⟨rfl, rfl, rfl, rfl⟩
def s_mk2b (f : Int32 × Int32) (c w : Int32) (K : qQV → qHV → qRV → qMk) (q : qQV) (h : qHV) (rs : qRV) : qMk :=
  if ((w >>> (8 &&& 31)) &&& 3 : Int32) = 0 then (if (0 : Int32) ≤ (s_X10_walk f q h (s_some (w >>> (10 &&& 31)) c)).1 then K (s_X10_walk f q h (s_some (w >>> (10 &&& 31)) c)).2.1 (s_X10_walk f q h (s_some (w >>> (10 &&& 31)) c)).2.2 rs else (false, (s_X10_walk f q h (s_some (w >>> (10 &&& 31)) c)).2.1, (s_X10_walk f q h (s_some (w >>> (10 &&& 31)) c)).2.2, rs)) else K q h rs
def s_mk2h (K : qQV → qHV → qRV → qMk) (r : Int32 × qQV × qHV × qRV) : qMk :=
  if 0 ≤ r.1 then K r.2.1 r.2.2.1 r.2.2.2 else if r.1 = (-3) then K r.2.1 r.2.2.1 r.2.2.2 else (false, r.2)
def s_mkw (n : Nat) (g : Nat → Int32) (j : Nat) : Int32 := scAt n g (nI (17 + j)) ^^^ (nI j * 7919)
def s_mk2e (r : Int32 × qQV × qHV × qRV) : qMk := if r.1 = 0 then (true, r.2) else (false, r.2)
def s_makes2 (f : Int32 × Int32) (n : Nat) (g : Nat → Int32) (c : Int32) : Nat → Nat → qQV → qHV → qRV → qMk
  | 0, _, q, h, rs => s_mk2e (s_X10_sledge f q h rs (s_some (scAt n g 30) c))
  | m + 1, j, q, h, rs => s_mk2h (fun q h rs => s_mk2b f c (s_mkw n g j) (fun q h rs => s_makes2 f n g c m (j + 1) q h rs) q h rs) (s_X10_hang f q h rs (s_some (s_mkw n g j) c) (s_some (s_mkw n g j >>> (4 &&& 31)) c))
def s_makes1 (f : Int32 × Int32) (n : Nat) (g : Nat → Int32) (c : Int32) : Nat → Nat → qQV → qHV → qRV → qMk
  | 0, _, q, h, rs => s_makes2 f n g c 16 0 q h rs
  | m + 1, j, q, h, rs => if (s_X10_block f q h rs (s_some (scAt n g (nI (j + 1))) 100)).1 = nI j then s_makes1 f n g c m (j + 1) (s_X10_block f q h rs (s_some (scAt n g (nI (j + 1))) 100)).2.1 (s_X10_block f q h rs (s_some (scAt n g (nI (j + 1))) 100)).2.2.1 (s_X10_block f q h rs (s_some (scAt n g (nI (j + 1))) 100)).2.2.2 else (false, (s_X10_block f q h rs (s_some (scAt n g (nI (j + 1))) 100)).2)
theorem s_makes1_z (f : Int32 × Int32) (n : Nat) (g : Nat → Int32) (c : Int32) (j : Nat) (q : qQV) (h : qHV) (rs : qRV) : s_makes1 f n g c 0 j q h rs = s_makes2 f n g c 16 0 q h rs := rfl
theorem s_makes1_s (f : Int32 × Int32) (n : Nat) (g : Nat → Int32) (c : Int32) (m j : Nat) (q : qQV) (h : qHV) (rs : qRV) : s_makes1 f n g c (m + 1) j q h rs = if (s_X10_block f q h rs (s_some (scAt n g (nI (j + 1))) 100)).1 = nI j then s_makes1 f n g c m (j + 1) (s_X10_block f q h rs (s_some (scAt n g (nI (j + 1))) 100)).2.1 (s_X10_block f q h rs (s_some (scAt n g (nI (j + 1))) 100)).2.2.1 (s_X10_block f q h rs (s_some (scAt n g (nI (j + 1))) 100)).2.2.2 else (false, (s_X10_block f q h rs (s_some (scAt n g (nI (j + 1))) 100)).2) := rfl
def s_mkc (n : Nat) (g : Nat → Int32) : Int32 := 4 + s_some (scAt n g 0) 13
def s_L_makes (f : Int32 × Int32) (n : Nat) (g : Nat → Int32) (q : qQV) (h : qHV) (rs : qRV) : qMk := s_makes1 f n g (s_mkc n g) (s_mkc n g).toInt.toNat 0 q h rs
theorem s_mkc_nI (n : Nat) (g : Nat → Int32) : ∃ cn : Nat, cn ≤ 16 ∧ s_mkc n g = nI cn ∧ (s_mkc n g).toInt.toNat = cn ∧ ¬ s_mkc n g = 0 := by
  have h := s_count (scAt n g 0)
  have hne := s_count_ne (scAt n g 0)
  unfold s_mkc
  generalize 4 + s_some (scAt n g 0) 13 = c at h hne ⊢
  refine ⟨c.toInt.toNat, by omega, ?_, rfl, hne⟩
  apply Int32.toInt_inj.mp
  show c.toInt = (Int32.ofNat c.toInt.toNat).toInt
  rw [Int32.toInt_ofNat_of_lt (by omega)]
  omega
set_option maxHeartbeats 8000000 in
set_option maxRecDepth 20000 in
theorem c_L_makes (l : Launch) (D : va_G) (cs : qC) {N00 t nn : Nat} {g : Nat → Int32} {M0 : qM} {N a : Nat} {f : (Int32 × Int32)} {q : qQV} {h : qHV} {rs : qRV} (hd : qDom N00 M0 N) (hn31 : nn < 2 ^ 31) (hL0 : qLX cs M0 a f) (hL1 : qLQ cs M0 (a + 1) q) (hL2 : qLH cs M0 (a + 40) h) (hL3 : qLR cs M0 (a + 166) rs) :
    qMetS l D cs N00 t nn g yL_makes (qws yL_makes cL_makes 6 (some .boolean)) (qRm 7 170) M0 N [.ref a, .ref t] (qMod N (some (.int (qbi (s_L_makes f nn g q h rs).1))) (fun M' => qLQ cs M' (a + 1) (s_L_makes f nn g q h rs).2.1 ∧ qLH cs M' (a + 40) (s_L_makes f nn g q h rs).2.2.1 ∧ qLR cs M' (a + 166) (s_L_makes f nn g q h rs).2.2.2 ∧ qFr (fun q => qIn (a + 1) 13 q ∨ qIn (a + 40) 119 q ∨ qIn (a + 166) 1 q) M0 M')) 0 0 := by
  obtain ⟨R, hR⟩ : ∃ R, s_L_makes f nn g q h rs = R := ⟨_, rfl⟩
  rw [hR]
  rw [s_L_makes] at hR
  refine s_head (by decide +kernel) ?_ (Nat.le_of_ble_eq_true rfl)
  intro p e s m below meth c ls hx hb hret hlk hml hown hnm hg hK hN hSc hI hl
  have hl : lv_has ls 6 [(0, .ref a), (1, .ref t)] := hl
  have hS : qFr (fun q => qIn (a + 1) 13 q ∨ qIn (a + 40) 119 q ∨ qIn (a + 166) 1 q) M0 M0 := qFr.rf
  refine lv_iconst (v := 4) hx hb dL_makes_0 (by decide) ?_
  refine lv_aload_n hx hb dL_makes_1 rfl (lv_at hl 1 rfl) ?_
  refine lv_iconst (v := 0) hx hb dL_makes_2 (by decide) ?_
  refine j_go (j_runS (As := [.ref t, .int 0]) (rest := [.int 4]) hx hb hml hown hg (j_at l hn31 0 (by decide)) v_L_at wl_L_34 rfl rfl ⟨Nat.le_of_ble_eq_true rfl, Nat.le_of_ble_eq_true rfl⟩ (fun U V H hv h => va_T.moved hv h) ((va_T.kept hSc (hI.zS hN hd).2.1).narrow (fun _ z => z.elim)) hl.1 rfl rfl (Nat.le_of_ble_eq_true rfl) dL_makes_3 ⟨Nat.le_of_ble_eq_true rfl, Nat.le_of_ble_eq_true rfl⟩) ?_
  refine lv_bipush (v := 13) hx hb dL_makes_6 (by decide) ?_
  refine j_go (j_runS (As := [.int (scAt nn g 0), .int 13]) (rest := [.int 4]) hx hb hml hown hg (j_some l (scAt nn g 0) 13 (by decide)) v_L_some wl_L_40 rfl rfl ⟨Nat.le_of_ble_eq_true rfl, Nat.le_of_ble_eq_true rfl⟩ qSt.tt trivial hl.1 rfl rfl (Nat.le_of_ble_eq_true rfl) dL_makes_8 ⟨Nat.le_of_ble_eq_true rfl, Nat.le_of_ble_eq_true rfl⟩) ?_
  refine lv_iadd hx hb dL_makes_11 ?_
  change W p l e (qRm 7 170) s m [Value.ref a, Value.ref t].toArray below meth c _ _ 0 0 _ (F0 m 12 ls [Value.int (s_mkc nn g)])
  obtain ⟨cn, hcn, hc1, hc2, hc0⟩ := s_mkc_nI nn g
  rw [hc2] at hR
  generalize s_mkc nn g = k at hR hc1 hc0 ⊢
  refine lv_istore_n (lv' := [(2, .int k), (0, .ref a), (1, .ref t)]) hx hb dL_makes_12 rfl hl (by decide) rfl (fun ls hl => ?_)
  refine lv_iconst (v := nI 0) hx hb dL_makes_13 (by decide) ?_
  refine lv_istore_n (lv' := [(3, .int (nI 0)), (2, .int k), (0, .ref a), (1, .ref t)]) hx hb dL_makes_14 rfl hl (by decide) rfl (fun ls hl => ?_)
  have loop2 : ∀ (n j : Nat), n + j = 16 → ∀ (q : qQV) (h : qHV) (rs : qRV), s_makes2 f nn g k n j q h rs = R → ∀ (M : qM) (H : Heap) (locs : List Loc) (ls : Array Slot), qLX cs M a f → qLQ cs M (a + 1) q → qLH cs M (a + 40) h → qLR cs M (a + 166) rs → qFr (fun q => qIn (a + 1) 13 q ∨ qIn (a + 40) 119 q ∨ qIn (a + 166) 1 q) M0 M → qI D M0 s.heap M N H locs → lv_has ls 6 [(3, .int (nI j)), (2, .int k), (0, .ref a), (1, .ref t)] →
      W p l e (qRm 7 170) s m [Value.ref a, Value.ref t].toArray below meth c H locs 0 0 (MQ below (qQ D M0 N (qMod N (some (.int (qbi R.1))) (fun M' => qLQ cs M' (a + 1) R.2.1 ∧ qLH cs M' (a + 40) R.2.2.1 ∧ qLR cs M' (a + 166) R.2.2.2 ∧ qFr (fun q => qIn (a + 1) 13 q ∨ qIn (a + 40) 119 q ∨ qIn (a + 166) 1 q) M0 M'))) [Value.ref a, Value.ref t].toArray s 0 0 (qA M0 N)) (F0 m 50 ls []) := by
    intro n
    induction n with
    | zero =>
      intro j hj q h rs hR M H locs ls hL0 hL1 hL2 hL3 hS hI hl
      obtain rfl : j = 16 := by omega
      rw [s_makes2] at hR
      refine lv_iload_n hx hb dL_makes_50 rfl (lv_at hl 0 rfl) ?_
      refine lv_bipush (v := 16) hx hb dL_makes_51 (by decide) ?_
      refine lv_icmp_ge (tgt := 140) hx hb dL_makes_53 (by decide) (fun c2 => ?_) (fun c2 => absurd (by decide) c2)
      refine lv_aload_n hx hb dL_makes_140 rfl (lv_at hl 2 rfl) ?_
      refine lv_aload_n hx hb dL_makes_141 rfl (lv_at hl 3 rfl) ?_
      refine lv_bipush (v := 30) hx hb dL_makes_142 (by decide) ?_
      refine j_go (j_runS (As := [.ref t, .int 30]) (rest := [.ref a]) hx hb hml hown hg (j_at l hn31 30 (by decide)) v_L_at wl_L_34 rfl rfl ⟨Nat.le_of_ble_eq_true rfl, Nat.le_of_ble_eq_true rfl⟩ (fun U V H hv h => va_T.moved hv h) ((va_T.kept hSc (hI.zS hN hd).2.1).narrow (fun _ z => z.elim)) hl.1 rfl rfl (Nat.le_of_ble_eq_true rfl) dL_makes_144 ⟨Nat.le_of_ble_eq_true rfl, Nat.le_of_ble_eq_true rfl⟩) ?_
      refine lv_iload_n hx hb dL_makes_147 rfl (lv_at hl 1 rfl) ?_
      refine j_go (j_runS (As := [.int (scAt nn g 30), .int k]) (rest := [.ref a]) hx hb hml hown hg (j_some l (scAt nn g 30) k hc0) v_L_some wl_L_40 rfl rfl ⟨Nat.le_of_ble_eq_true rfl, Nat.le_of_ble_eq_true rfl⟩ qSt.tt trivial hl.1 rfl rfl (Nat.le_of_ble_eq_true rfl) dL_makes_148 ⟨Nat.le_of_ble_eq_true rfl, Nat.le_of_ble_eq_true rfl⟩) ?_
      refine q_goP (q_runV (As := [.int (s_some (scAt nn g 30) k)]) (rest := []) hx hb hml hown hg (c_X10_sledge l D cs hL0 hL1 hL2 hL3 (s_some (scAt nn g 30) k)) v_X10_sledge wl_L_53 rfl rfl ⟨Nat.le_of_ble_eq_true rfl, Nat.le_of_ble_eq_true rfl⟩ hI hK 10 hL0 rfl hl.1 rfl rfl (Nat.le_of_ble_eq_true rfl) dL_makes_151 ⟨Nat.le_of_ble_eq_true rfl, Nat.le_of_ble_eq_true rfl⟩) hI (fun M H locs hp hI => ?_)
      obtain ⟨hL1, hL2, hL3, hF⟩ := hp
      generalize heg : s_X10_sledge f q h rs (s_some (scAt nn g 30) k) = r at hL1 hL2 hL3 hR ⊢
      have hS := hS.tr hF (fun q hq => hq)
      rw [s_mk2e] at hR
      refine lv_if_ne (tgt := 161) hx hb dL_makes_154 (by decide) (fun c3 => ?_) (fun c3 => ?_)
      · rw [if_neg c3] at hR
        refine lv_iconst (v := 0) hx hb dL_makes_161 (by decide) ?_
        exact q_zret hx hb hret rfl hlk hN hI (by subst hR; exact ⟨rfl, ⟨hL1, hL2, hL3, hS⟩, rfl⟩) dL_makes_162
      · rw [if_pos c3] at hR
        refine lv_iconst (v := 1) hx hb dL_makes_157 (by decide) ?_
        refine lv_goto (tgt := 162) hx hb dL_makes_158 (by decide) ?_
        exact q_zret hx hb hret rfl hlk hN hI (by subst hR; exact ⟨rfl, ⟨hL1, hL2, hL3, hS⟩, rfl⟩) dL_makes_162
    | succ n ih =>
      intro j hj q h rs hR M H locs ls hL0 hL1 hL2 hL3 hS hI hl
      have hj8 : j < 16 := by omega
      rw [s_makes2] at hR
      refine lv_iload_n hx hb dL_makes_50 rfl (lv_at hl 0 rfl) ?_
      refine lv_bipush (v := 16) hx hb dL_makes_51 (by decide) ?_
      refine lv_icmp_ge (tgt := 140) hx hb dL_makes_53 (by decide) (fun c2 => absurd c2 (nI_ge (b := 16) hj8 (by decide))) (fun c2 => ?_)
      refine lv_aload_n hx hb dL_makes_56 rfl (lv_at hl 3 rfl) ?_
      refine lv_bipush (v := nI 17) hx hb dL_makes_57 (by decide) ?_
      refine lv_iload_n hx hb dL_makes_59 rfl (lv_at hl 0 rfl) ?_
      refine lv_iadd hx hb dL_makes_60 ?_
      rw [nI_add]
      refine j_go (j_runS (As := [.ref t, .int (nI (17 + j))]) (rest := []) hx hb hml hown hg (j_at l hn31 (nI (17 + j)) (nI_pos (by omega))) v_L_at wl_L_34 rfl rfl ⟨Nat.le_of_ble_eq_true rfl, Nat.le_of_ble_eq_true rfl⟩ (fun U V H hv h => va_T.moved hv h) ((va_T.kept hSc (hI.zS hN hd).2.1).narrow (fun _ z => z.elim)) hl.1 rfl rfl (Nat.le_of_ble_eq_true rfl) dL_makes_61 ⟨Nat.le_of_ble_eq_true rfl, Nat.le_of_ble_eq_true rfl⟩) ?_
      refine lv_iload_n hx hb dL_makes_64 rfl (lv_at hl 0 rfl) ?_
      refine lv_sipush (v := 7919) hx hb dL_makes_65 q_7919 ?_
      refine lv_imul hx hb dL_makes_68 ?_
      refine lv_ixor hx hb dL_makes_69 ?_
      change W p l e (qRm 7 170) s m [Value.ref a, Value.ref t].toArray below meth c _ _ 0 0 _ (F0 m 70 ls [Value.int (s_mkw nn g j)])
      generalize s_mkw nn g j = w at hR ⊢
      refine lv_istore (lv' := [(4, .int w), (3, .int (nI j)), (2, .int k), (0, .ref a), (1, .ref t)]) hx hb dL_makes_70 hl (by decide) rfl (fun ls hl => ?_)
      refine lv_aload_n hx hb dL_makes_72 rfl (lv_at hl 3 rfl) ?_
      refine lv_iload hx hb dL_makes_73 (lv_at hl 0 rfl) ?_
      refine lv_iload_n hx hb dL_makes_75 rfl (lv_at hl 2 rfl) ?_
      refine j_go (j_runS (As := [.int w, .int k]) (rest := [.ref a]) hx hb hml hown hg (j_some l w k hc0) v_L_some wl_L_40 rfl rfl ⟨Nat.le_of_ble_eq_true rfl, Nat.le_of_ble_eq_true rfl⟩ qSt.tt trivial hl.1 rfl rfl (Nat.le_of_ble_eq_true rfl) dL_makes_76 ⟨Nat.le_of_ble_eq_true rfl, Nat.le_of_ble_eq_true rfl⟩) ?_
      refine lv_iload hx hb dL_makes_79 (lv_at hl 0 rfl) ?_
      refine lv_iconst (v := 4) hx hb dL_makes_81 (by decide) ?_
      refine lv_ishr hx hb dL_makes_82 ?_
      refine lv_iload_n hx hb dL_makes_83 rfl (lv_at hl 2 rfl) ?_
      refine j_go (j_runS (As := [.int (w >>> (4 &&& 31)), .int k]) (rest := [.int (s_some w k), .ref a]) hx hb hml hown hg (j_some l (w >>> (4 &&& 31)) k hc0) v_L_some wl_L_40 rfl rfl ⟨Nat.le_of_ble_eq_true rfl, Nat.le_of_ble_eq_true rfl⟩ qSt.tt trivial hl.1 rfl rfl (Nat.le_of_ble_eq_true rfl) dL_makes_84 ⟨Nat.le_of_ble_eq_true rfl, Nat.le_of_ble_eq_true rfl⟩) ?_
      refine q_goP (q_runV (As := [.int (s_some w k), .int (s_some (w >>> (4 &&& 31)) k)]) (rest := []) hx hb hml hown hg (c_X10_hang l D cs hL0 hL1 hL2 hL3 (s_some w k) (s_some (w >>> (4 &&& 31)) k)) v_X10_hang wl_L_47 rfl rfl ⟨Nat.le_of_ble_eq_true rfl, Nat.le_of_ble_eq_true rfl⟩ hI hK 10 hL0 rfl hl.1 rfl rfl (Nat.le_of_ble_eq_true rfl) dL_makes_87 ⟨Nat.le_of_ble_eq_true rfl, Nat.le_of_ble_eq_true rfl⟩) hI (fun M H locs hp hI => ?_)
      obtain ⟨hL1, hL2, hL3, hF⟩ := hp
      generalize heg : s_X10_hang f q h rs (s_some w k) (s_some (w >>> (4 &&& 31)) k) = r at hL1 hL2 hL3 hR ⊢
      have hL0 := hL0.fr hF (fun q h1 h2 hq => by omega)
      have hS := hS.tr hF (fun q hq => hq)
      refine lv_istore (lv' := [(5, .int r.1), (4, .int w), (3, .int (nI j)), (2, .int k), (0, .ref a), (1, .ref t)]) hx hb dL_makes_90 hl (by decide) rfl (fun ls hl => ?_)
      have at106 : s_mk2b f k w (fun q h rs => s_makes2 f nn g k n (j + 1) q h rs) r.2.1 r.2.2.1 r.2.2.2 = R → W p l e (qRm 7 170) s m [Value.ref a, Value.ref t].toArray below meth c H locs 0 0 (MQ below (qQ D M0 N (qMod N (some (.int (qbi R.1))) (fun M' => qLQ cs M' (a + 1) R.2.1 ∧ qLH cs M' (a + 40) R.2.2.1 ∧ qLR cs M' (a + 166) R.2.2.2 ∧ qFr (fun q => qIn (a + 1) 13 q ∨ qIn (a + 40) 119 q ∨ qIn (a + 166) 1 q) M0 M'))) [Value.ref a, Value.ref t].toArray s 0 0 (qA M0 N)) (F0 m 106 ls []) := by
        intro hR
        rw [s_mk2b] at hR
        refine lv_iload hx hb dL_makes_106 (lv_at hl 1 rfl) ?_
        refine lv_bipush (v := 8) hx hb dL_makes_108 (by decide) ?_
        refine lv_ishr hx hb dL_makes_110 ?_
        refine lv_iconst (v := 3) hx hb dL_makes_111 (by decide) ?_
        refine lv_iand hx hb dL_makes_112 ?_
        refine lv_if_ne (tgt := 134) hx hb dL_makes_113 (by decide) (fun c3 => ?_) (fun c3 => ?_)
        · rw [if_neg c3] at hR
          refine lv_iinc (v := nI (j + 1)) (lv' := [(3, .int (nI (j + 1))), (5, .int r.1), (4, .int w), (2, .int k), (0, .ref a), (1, .ref t)]) hx hb dL_makes_134 hl (k := 2) rfl (by rw [nI_succ]; rfl) (by decide) rfl (fun ls hl => ?_)
          refine lv_goto (tgt := 50) hx hb dL_makes_137 (by decide) ?_
          exact ih (j + 1) (by omega) _ _ _ hR M H locs ls hL0 hL1 hL2 hL3 hS hI (lv_sub hl [0, 3, 4, 5] rfl)
        · rw [if_pos c3] at hR
          refine lv_aload_n hx hb dL_makes_116 rfl (lv_at hl 4 rfl) ?_
          refine lv_iload hx hb dL_makes_117 (lv_at hl 1 rfl) ?_
          refine lv_bipush (v := 10) hx hb dL_makes_119 (by decide) ?_
          refine lv_ishr hx hb dL_makes_121 ?_
          refine lv_iload_n hx hb dL_makes_122 rfl (lv_at hl 3 rfl) ?_
          refine j_go (j_runS (As := [.int (w >>> (10 &&& 31)), .int k]) (rest := [.ref a]) hx hb hml hown hg (j_some l (w >>> (10 &&& 31)) k hc0) v_L_some wl_L_40 rfl rfl ⟨Nat.le_of_ble_eq_true rfl, Nat.le_of_ble_eq_true rfl⟩ qSt.tt trivial hl.1 rfl rfl (Nat.le_of_ble_eq_true rfl) dL_makes_123 ⟨Nat.le_of_ble_eq_true rfl, Nat.le_of_ble_eq_true rfl⟩) ?_
          refine q_goP (q_runV (As := [.int (s_some (w >>> (10 &&& 31)) k)]) (rest := []) hx hb hml hown hg (c_X10_walk l D cs hL0 hL1 hL2 (s_some (w >>> (10 &&& 31)) k)) v_X10_walk wl_L_50 rfl rfl ⟨Nat.le_of_ble_eq_true rfl, Nat.le_of_ble_eq_true rfl⟩ hI hK 10 hL0 rfl hl.1 rfl rfl (Nat.le_of_ble_eq_true rfl) dL_makes_126 ⟨Nat.le_of_ble_eq_true rfl, Nat.le_of_ble_eq_true rfl⟩) hI (fun M H locs hp hI => ?_)
          obtain ⟨hL1, hL2, hF⟩ := hp
          generalize heg2 : s_X10_walk f r.2.1 r.2.2.1 (s_some (w >>> (10 &&& 31)) k) = u at hL1 hL2 hR ⊢
          have hL0 := hL0.fr hF (fun q h1 h2 hq => by omega)
          have hL3 := hL3.fr hF (fun q h1 h2 hq => by omega)
          have hS := hS.tr hF (fun q hq => by omega)
          refine lv_if_ge (tgt := 134) hx hb dL_makes_129 (by decide) (fun c4 => ?_) (fun c4 => ?_)
          · rw [if_pos c4] at hR
            have hR : s_makes2 f nn g k n (j + 1) u.2.1 u.2.2 r.2.2.2 = R := hR
            refine lv_iinc (v := nI (j + 1)) (lv' := [(3, .int (nI (j + 1))), (5, .int r.1), (4, .int w), (2, .int k), (0, .ref a), (1, .ref t)]) hx hb dL_makes_134 hl (k := 2) rfl (by rw [nI_succ]; rfl) (by decide) rfl (fun ls hl => ?_)
            refine lv_goto (tgt := 50) hx hb dL_makes_137 (by decide) ?_
            exact ih (j + 1) (by omega) u.2.1 u.2.2 r.2.2.2 hR M H locs ls hL0 hL1 hL2 hL3 hS hI (lv_sub hl [0, 3, 4, 5] rfl)
          · rw [if_neg c4] at hR
            refine lv_iconst (v := 0) hx hb dL_makes_132 (by decide) ?_
            exact q_zret hx hb hret rfl hlk hN hI (by obtain ⟨e1, e2, e3, e4⟩ := q_mk4 hR; exact ⟨by rw [e1]; rfl, ⟨by rw [e2]; exact hL1, by rw [e3]; exact hL2, by rw [e4]; exact hL3, hS⟩, rfl⟩) dL_makes_133
      rw [s_mk2h] at hR
      refine lv_iload hx hb dL_makes_92 (lv_at hl 0 rfl) ?_
      refine lv_if_ge (tgt := 106) hx hb dL_makes_94 (by decide) (fun c5 => ?_) (fun c5 => ?_)
      · rw [if_pos c5] at hR
        exact at106 hR
      · rw [if_neg c5] at hR
        refine lv_iload hx hb dL_makes_97 (lv_at hl 0 rfl) ?_
        refine lv_bipush (v := (-3)) hx hb dL_makes_99 (by decide) ?_
        refine lv_icmp_eq (tgt := 106) hx hb dL_makes_101 (by decide) (fun c6 => ?_) (fun c6 => ?_)
        · rw [if_pos c6] at hR
          exact at106 hR
        · rw [if_neg c6] at hR
          refine lv_iconst (v := 0) hx hb dL_makes_104 (by decide) ?_
          exact q_zret hx hb hret rfl hlk hN hI (by subst hR; exact ⟨rfl, ⟨hL1, hL2, hL3, hS⟩, rfl⟩) dL_makes_105
  have loop1 : ∀ (n j : Nat), n + j = cn → ∀ (q : qQV) (h : qHV) (rs : qRV), s_makes1 f nn g k n j q h rs = R → ∀ (M : qM) (H : Heap) (locs : List Loc) (ls : Array Slot), qLX cs M a f → qLQ cs M (a + 1) q → qLH cs M (a + 40) h → qLR cs M (a + 166) rs → qFr (fun q => qIn (a + 1) 13 q ∨ qIn (a + 40) 119 q ∨ qIn (a + 166) 1 q) M0 M → qI D M0 s.heap M N H locs → lv_has ls 6 [(3, .int (nI j)), (2, .int k), (0, .ref a), (1, .ref t)] →
      W p l e (qRm 7 170) s m [Value.ref a, Value.ref t].toArray below meth c H locs 0 0 (MQ below (qQ D M0 N (qMod N (some (.int (qbi R.1))) (fun M' => qLQ cs M' (a + 1) R.2.1 ∧ qLH cs M' (a + 40) R.2.2.1 ∧ qLR cs M' (a + 166) R.2.2.2 ∧ qFr (fun q => qIn (a + 1) 13 q ∨ qIn (a + 40) 119 q ∨ qIn (a + 166) 1 q) M0 M'))) [Value.ref a, Value.ref t].toArray s 0 0 (qA M0 N)) (F0 m 15 ls []) := by
    intro n
    induction n with
    | zero =>
      intro j hj q h rs hR M H locs ls hL0 hL1 hL2 hL3 hS hI hl
      have ej : cn = j := by omega
      rw [s_makes1_z] at hR
      refine lv_iload_n hx hb dL_makes_15 rfl (lv_at hl 0 rfl) ?_
      refine lv_iload_n hx hb dL_makes_16 rfl (lv_at hl 1 rfl) ?_
      refine lv_icmp_ge (tgt := 48) hx hb dL_makes_17 (by decide) (fun c2 => ?_) (fun c2 => absurd (by rw [hc1, ej]; exact Int32.le_refl _) c2)
      refine lv_iconst (v := nI 0) hx hb dL_makes_48 (by decide) ?_
      refine lv_istore_n (lv' := [(3, .int (nI 0)), (2, .int k), (0, .ref a), (1, .ref t)]) hx hb dL_makes_49 rfl hl (by decide) rfl (fun ls hl => ?_)
      exact loop2 16 0 rfl _ _ _ hR M H locs ls hL0 hL1 hL2 hL3 hS hI hl
    | succ n ih =>
      intro j hj q h rs hR M H locs ls hL0 hL1 hL2 hL3 hS hI hl
      rw [s_makes1_s] at hR
      refine lv_iload_n hx hb dL_makes_15 rfl (lv_at hl 0 rfl) ?_
      refine lv_iload_n hx hb dL_makes_16 rfl (lv_at hl 1 rfl) ?_
      refine lv_icmp_ge (tgt := 48) hx hb dL_makes_17 (by decide) (fun c2 => absurd c2 (by rw [hc1]; exact nI_ge (b := cn) (by omega) (by omega))) (fun c2 => ?_)
      refine lv_aload_n hx hb dL_makes_20 rfl (lv_at hl 2 rfl) ?_
      refine lv_aload_n hx hb dL_makes_21 rfl (lv_at hl 3 rfl) ?_
      refine lv_iconst (v := nI 1) hx hb dL_makes_22 (by decide) ?_
      refine lv_iload_n hx hb dL_makes_23 rfl (lv_at hl 0 rfl) ?_
      refine lv_iadd hx hb dL_makes_24 ?_
      rw [nI_add, Nat.add_comm 1 j]
      refine j_go (j_runS (As := [.ref t, .int (nI (j + 1))]) (rest := [.ref a]) hx hb hml hown hg (j_at l hn31 (nI (j + 1)) (nI_pos (by omega))) v_L_at wl_L_34 rfl rfl ⟨Nat.le_of_ble_eq_true rfl, Nat.le_of_ble_eq_true rfl⟩ (fun U V H hv h => va_T.moved hv h) ((va_T.kept hSc (hI.zS hN hd).2.1).narrow (fun _ z => z.elim)) hl.1 rfl rfl (Nat.le_of_ble_eq_true rfl) dL_makes_25 ⟨Nat.le_of_ble_eq_true rfl, Nat.le_of_ble_eq_true rfl⟩) ?_
      refine lv_bipush (v := 100) hx hb dL_makes_28 (by decide) ?_
      refine j_go (j_runS (As := [.int (scAt nn g (nI (j + 1))), .int 100]) (rest := [.ref a]) hx hb hml hown hg (j_some l (scAt nn g (nI (j + 1))) 100 (by decide)) v_L_some wl_L_40 rfl rfl ⟨Nat.le_of_ble_eq_true rfl, Nat.le_of_ble_eq_true rfl⟩ qSt.tt trivial hl.1 rfl rfl (Nat.le_of_ble_eq_true rfl) dL_makes_30 ⟨Nat.le_of_ble_eq_true rfl, Nat.le_of_ble_eq_true rfl⟩) ?_
      refine q_goP (q_runV (As := [.int (s_some (scAt nn g (nI (j + 1))) 100)]) (rest := []) hx hb hml hown hg (c_X10_block l D cs hL0 hL1 hL2 hL3 (s_some (scAt nn g (nI (j + 1))) 100)) v_X10_block wl_L_44 rfl rfl ⟨Nat.le_of_ble_eq_true rfl, Nat.le_of_ble_eq_true rfl⟩ hI hK 10 hL0 rfl hl.1 rfl rfl (Nat.le_of_ble_eq_true rfl) dL_makes_33 ⟨Nat.le_of_ble_eq_true rfl, Nat.le_of_ble_eq_true rfl⟩) hI (fun M H locs hp hI => ?_)
      obtain ⟨hL1, hL2, hL3, hF⟩ := hp
      generalize heg : s_X10_block f q h rs (s_some (scAt nn g (nI (j + 1))) 100) = r at hL1 hL2 hL3 hR ⊢
      have hL0 := hL0.fr hF (fun q h1 h2 hq => by omega)
      have hS := hS.tr hF (fun q hq => hq)
      refine lv_iload_n hx hb dL_makes_36 rfl (lv_at hl 0 rfl) ?_
      refine lv_icmp_eq (tgt := 42) hx hb dL_makes_37 (by decide) (fun c3 => ?_) (fun c3 => ?_)
      · rw [if_pos c3] at hR
        refine lv_iinc (v := nI (j + 1)) (lv' := [(3, .int (nI (j + 1))), (2, .int k), (0, .ref a), (1, .ref t)]) hx hb dL_makes_42 hl (k := 0) rfl (by rw [nI_succ]; rfl) (by decide) rfl (fun ls hl => ?_)
        refine lv_goto (tgt := 15) hx hb dL_makes_45 (by decide) ?_
        exact ih (j + 1) (by omega) _ _ _ hR M H locs ls hL0 hL1 hL2 hL3 hS hI hl
      · rw [if_neg c3] at hR
        refine lv_iconst (v := 0) hx hb dL_makes_40 (by decide) ?_
        exact q_zret hx hb hret rfl hlk hN hI (by subst hR; exact ⟨rfl, ⟨hL1, hL2, hL3, hS⟩, rfl⟩) dL_makes_41
  exact loop1 cn 0 rfl _ _ _ hR M0 _ _ ls hL0 hL1 hL2 hL3 hS hI hl
