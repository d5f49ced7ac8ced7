/-! THE STATICS: the words, their texts, the switch's map: cells below N00, where no cell of the model lies -/
def qWn (k : Nat) : Int32 := [1, 2, 1, 1, 1, 2, 1, 0].getD k 0
def qWt (k : Nat) : List Int32 := [[98, 108, 111, 99, 107, 32], [104, 97, 110, 103, 32], [99, 117, 116, 32], [119, 97, 108, 107, 32], [117, 112, 32], [119, 101, 105, 103, 104, 32], [115, 108, 101, 100, 103, 101, 32], [112, 117, 108, 108]].getD k []
theorem qWt_lt (k : Nat) : (qWt k).length < 2 ^ 31 := by
  unfold qWt
  match k with
  | 0 | 1 | 2 | 3 | 4 | 5 | 6 | 7 => decide
  | k + 8 => simp [List.getD]
abbrev qGe0 (N00 q : Nat) : Prop := N00 ≤ q
def zStr (A : Nat → Prop) (a t : Nat) (L : List Int32) (U : State) (H : Heap) : Prop := va_O "java/lang/String" a A U H ∧ va_OF "java/lang/String" "coder" "B" (.int 0) a A U H ∧ va_OF "java/lang/String" "value" "[B" (.ref t) a A U H ∧ va_T .byte t L.length (fun j => .int (L.getD j 0)) A U H
theorem zStr.q {A : Nat → Prop} {a t : Nat} {L : List Int32} {s : State} {H : Heap} {locs : List Loc} (h : zStr A a t L s s.heap) (hS : va_S A s.heap H locs) : qStr a t L s H :=
  ⟨(h.1.kept hS.2.1).narrow (fun _ z => z.elim), (h.2.1.kept hS.2.1).narrow (fun _ z => z.elim), (h.2.2.1.kept hS.2.1).narrow (fun _ z => z.elim), (h.2.2.2.kept hS.2.1).narrow (fun _ z => z.elim)⟩
def zJS (A : Nat → Prop) (U : State) (H : Heap) : Prop := va_Z "java/lang/String" "COMPACT_STRINGS" "Z" (.int 1) A U H ∧ va_Zq "jdk/internal/util/Preconditions" "SIOOBE_FORMATTER" "Ljava/util/function/BiFunction;" A U H
def zW (A : Nat → Prop) (cs : qC) (U : State) (H : Heap) : Prop :=
  (∀ k : Nat, k < 8 → va_O RX9 (cs (16 + k)) A U H ∧ va_OF "java/lang/Enum" "ordinal" "I" (.int (nI k)) (cs (16 + k)) A U H ∧ va_OF RX9 "numbers" "I" (.int (qWn k)) (cs (16 + k)) A U H ∧ va_OF RX9 "text" "Ljava/lang/String;" (.ref (cs (32 + k))) (cs (16 + k)) A U H ∧ zStr A (cs (32 + k)) (cs (48 + k)) (qWt k) U H) ∧
  va_Z RX10 "WORDS" "[LQuarryRopes$Word;" (.ref (cs 64)) A U H ∧ va_T (.object RX9) (cs 64) 8 (fun k => .ref (cs (16 + k))) A U H ∧
  va_Z "QuarryRopes$1" "$SwitchMap$QuarryRopes$Word" "[I" (.ref (cs 65)) A U H ∧ va_T .int (cs 65) 8 (fun k => .int (nI (k + 1))) A U H
def zP (N00 : Nat) (cs : qC) (U : State) (H : Heap) : Prop := zJS (qGe0 N00) U H ∧ zW (qGe0 N00) cs U H
theorem zStr.moved {A : Nat → Prop} {a t : Nat} {L : List Int32} {u U : State} {H : Heap} (hv : u.vm.Alike U.vm) (h : zStr A a t L u H) : zStr A a t L U H := ⟨va_O.moved hv h.1, va_OF.moved hv h.2.1, va_OF.moved hv h.2.2.1, va_T.moved hv h.2.2.2⟩
theorem zStr.kept {A : Nat → Prop} {a t : Nat} {L : List Int32} {U : State} {H H1 : Heap} (h : zStr A a t L U H) (hq : ∀ a : Nat, a < H.size → ¬ A a → H1[a]? = H[a]?) : zStr A a t L U H1 := ⟨h.1.kept hq, h.2.1.kept hq, h.2.2.1.kept hq, h.2.2.2.kept hq⟩
theorem zP.st {N00 : Nat} {cs : qC} : qSt (zP N00 cs) := fun U V H hv h =>
  ⟨⟨va_Z.moved hv h.1.1, va_Zq.moved hv h.1.2⟩, fun k hk => ⟨va_O.moved hv (h.2.1 k hk).1, va_OF.moved hv (h.2.1 k hk).2.1, va_OF.moved hv (h.2.1 k hk).2.2.1, va_OF.moved hv (h.2.1 k hk).2.2.2.1, (h.2.1 k hk).2.2.2.2.moved hv⟩, va_Z.moved hv h.2.2.1, va_T.moved hv h.2.2.2.1, va_Z.moved hv h.2.2.2.2.1, va_T.moved hv h.2.2.2.2.2⟩
theorem zP.kept {N00 : Nat} {cs : qC} {U : State} {H H1 : Heap} (h : zP N00 cs U H) (hq : ∀ a : Nat, a < H.size → ¬ qGe0 N00 a → H1[a]? = H[a]?) : zP N00 cs U H1 :=
  ⟨⟨h.1.1.kept hq, h.1.2.kept hq⟩, fun k hk => ⟨(h.2.1 k hk).1.kept hq, (h.2.1 k hk).2.1.kept hq, (h.2.1 k hk).2.2.1.kept hq, (h.2.1 k hk).2.2.2.1.kept hq, (h.2.1 k hk).2.2.2.2.kept hq⟩, h.2.2.1.kept hq, h.2.2.2.1.kept hq, h.2.2.2.2.1.kept hq, h.2.2.2.2.2.kept hq⟩
/-- the model lies at N00 and behind -/
def qDom (N00 : Nat) (M : qM) (N : Nat) : Prop := N00 ≤ N ∧ ∀ a : Nat, M a ≠ none → N00 ≤ a
theorem qDom.in {N00 N : Nat} {M : qM} (h : qDom N00 M N) {q : Nat} (hq : qA M N q) : N00 ≤ q := by
  rcases hq with hq | hq
  · exact h.2 q hq
  · exact Nat.le_trans h.1 hq
theorem qI.dom {D : va_G} {M0 M : qM} {H0 H : Heap} {N0 N N00 : Nat} {locs : List Loc} (hI : qI D M0 H0 M N H locs) (hN : H0.size = N0) (hd : qDom N00 M0 N0) : qDom N00 M N := by
  subst hN
  have h1 := hI.2.2.2.1
  have h2 := hI.2.1
  refine ⟨Nat.le_trans hd.1 (by omega), fun a ha => ?_⟩
  cases hm : M a with
  | none => exact absurd hm ha
  | some e => exact hd.in (hI.2.2.1 a e hm)
theorem qI.zS {D : va_G} {M0 M : qM} {H0 H : Heap} {N0 N N00 : Nat} {locs : List Loc} (hI : qI D M0 H0 M N H locs) (hN : H0.size = N0) (hd : qDom N00 M0 N0) : va_S (qGe0 N00) H0 H locs := by
  subst hN
  exact ⟨hI.2.2.2.1, fun q h1 h2 => hI.2.2.2.2.1 q h1 (fun z => h2 (hd.in z)), fun l hl => hd.in (hI.2.2.2.2.2 l hl)⟩
theorem qI.z {D : va_G} {M0 M : qM} {N0 N N00 : Nat} {cs : qC} {s : State} {H : Heap} {locs : List Loc} (hI : qI D M0 s.heap M N H locs) (hN : s.heap.size = N0) (hd : qDom N00 M0 N0) (hZ : zP N00 cs s s.heap) : zP N00 cs s H := hZ.kept (hI.zS hN hd).2.1
theorem qI.js {D : va_G} {M0 M : qM} {N0 N N00 : Nat} {cs : qC} {s : State} {H : Heap} {locs : List Loc} (hI : qI D M0 s.heap M N H locs) (hN : s.heap.size = N0) (hd : qDom N00 M0 N0) (hZ : zP N00 cs s s.heap) : qJS s H := by
  have hS := hI.zS hN hd
  exact ⟨(hZ.1.1.kept hS.2.1).narrow (fun _ z => z.elim), by
    rcases hZ.1.2 with h | ⟨t, h⟩
    · exact Or.inl ((h.kept hS.2.1).narrow (fun _ z => z.elim))
    · exact Or.inr ⟨t, (h.kept hS.2.1).narrow (fun _ z => z.elim)⟩⟩
abbrev qPcZ (D : va_G) (cs : qC) (N00 : Nat) (M : qM) (N : Nat) (av : List Value) : Array Value → State → Prop := fun v U => qPc D cs M N av v U ∧ zP N00 cs U U.heap
abbrev qMetZ (l : Launch) (D : va_G) (cs : qC) (N00 : Nat) (y : MethodName) (ws : List Cond) (rm : Room) (M : qM) (N : Nat) (av : List Value) (post : Option Value → qM → Nat → Prop) (mc ms : Nat) : Prop :=
  Met l y ws rm (qPcZ D cs N00 M N av) (qQ D M N post) mc ms (qA M N)
section QZ
variable {p : Program} {l : Launch} {e : Env} {R : Room} {s : State} {m : MethodId} {args : Array Value} {below : List Frame} {meth : Method} {c : Code} {H : Heap} {locs : List Loc} {cells slots : Nat} {Q : State → Prop}
variable {cc : ByteArray} {pc : Nat} {ls : Array Slot} {rest : List Value} {D : va_G} {cs : qC} {M0 M : qM} {N a N00 : Nat}
variable {y : MethodName} {bytes : ByteArray} {maxL nL mc ms n index : Nat} {ret : Option FieldType} {rm : Room} {own host : String} {b : Nat} {As st0 : List Value} {post : Option Value → qM → Nat → Prop}
theorem qPcZ_blind {av : List Value} : FrameBlind (qPcZ D cs N00 M N av) := fun a U g mk q => ⟨qPc_blind a U g mk q.1, zP.st U (U.calling g mk a) _ (Vm.Alike.refl U.vm) q.2⟩
theorem q_runVZ (hx : p.tables.exec = Jvm.exec) (hb : c.code = cc) (hml : c.maxLocals = nL) (hown : s.vm.findClass own = some m.cls) (hg : ∀ w ∈ qG, w.before args s = true)
    (hM : qMetZ l D cs N00 y (qws y bytes maxL ret) rm M N (.ref b :: As) post mc ms) (v : qVm y bytes maxL ret n) (hl : Cond.methodLink own index y ∈ qG) (hrc : rm.cells = mc) (hrs : rm.slots = ms) (hR : rm.frames + 1 ≤ R.frames ∧ 8 + (maxL + 11) + rm.locals ≤ R.locals)
    (hI : qI D M0 s.heap M N H locs) (hK : qK D cs s) (hz : zP N00 cs s H) (ci : Nat) {fs : List Value} {T : u_T} {NN : Nat} (hMb : M b = some (.inr (ci, fs))) (hc : vwCl[ci]? = some (y.cls, T, NN))
    (hls : ls.size = nL) (hn : As.length = n) (hst : st0 = As.reverse ++ .ref b :: rest) (hcat : (rest.map fun v => v.category).sum ≤ 8) (hdg : decode cc pc = .ok (.invokevirtual index, 3)) (hf : cells + mc ≤ R.cells ∧ slots + ms ≤ R.slots) :
    va_Run p l e R s m args below meth c H locs cells slots mc ms (F0 m pc ls st0) rest (qQ D M N post (Value.ref b :: As).toArray) (qA M N) := by
  refine va_runV (As := As) (rest := rest) (C := y.cls) ⟨hx, hb, hml, hown, hg⟩ hM (cwV n hg (qG_wsV v hl) rfl hrc hrs ⟨rfl, v.2.2.2.2⟩ hR) ⟨qPcZ_blind, ?_, fun U hU hW => ⟨(q_pre (As := .ref b :: As) hI hK).2 U hU hW, zP.st s U _ hW.alike (by rw [hU]; exact hz)⟩⟩ rfl hn hls hst (lv_room hcat) hdg hf
  obtain ⟨q', h1, cell, g1, g2, g3, -⟩ := hI.1 b _ hMb
  exact ⟨cell, g1, by rw [g3]; rfl, by rw [g2]; exact (hK.1.1 ci _ hc).2.1⟩
theorem q_runSZ (hx : p.tables.exec = Jvm.exec) (hb : c.code = cc) (hml : c.maxLocals = nL) (hown : s.vm.findClass own = some m.cls) (hg : ∀ w ∈ qG, w.before args s = true)
    (hM : qMetZ l D cs N00 y (qws y bytes maxL ret) rm M N As post mc ms) (v : qSm y bytes maxL ret n) (hl : Cond.methodLink own index y ∈ qG) (hrc : rm.cells = mc) (hrs : rm.slots = ms) (hR : rm.frames + 1 ≤ R.frames ∧ 8 + (maxL + 11) + rm.locals ≤ R.locals)
    (hI : qI D M0 s.heap M N H locs) (hK : qK D cs s) (hz : zP N00 cs s H)
    (hls : ls.size = nL) (hn : As.length = n) (hst : st0 = As.reverse ++ rest) (hcat : (rest.map fun v => v.category).sum ≤ 8) (hdg : decode cc pc = .ok (.invokestatic index, 3)) (hf : cells + mc ≤ R.cells ∧ slots + ms ≤ R.slots) :
    va_Run p l e R s m args below meth c H locs cells slots mc ms (F0 m pc ls st0) rest (qQ D M N post As.toArray) (qA M N) :=
  va_runS (As := As) (rest := rest) ⟨hx, hb, hml, hown, hg⟩ hM (va_cwS n hg (qG_wsS v hl) rfl hrc hrs v.2.2.2 hR) ⟨qPcZ_blind, fun U hU hW => ⟨(q_pre hI hK).2 U hU hW, zP.st s U _ hW.alike (by rw [hU]; exact hz)⟩⟩ rfl hn hls hst (lv_room hcat) hdg hf
theorem z_head {av : List Value} (hy : plainName y.cls = true)
    (body : ∀ (p : Program) (e : Env) (s : State) (m : MethodId) (below : List Frame) (meth : Method) (c : Code) (ls : Array Slot), p.tables.exec = Jvm.exec → c.code = bytes → meth.sig.returnType = ret → meth.locks = false → c.maxLocals = maxL → s.vm.findClass y.cls = some m.cls → meth.name = y.name → (∀ w ∈ qG, w.before av.toArray s = true) → qK D cs s → s.heap.size = N → zP N00 cs s s.heap → qI D M s.heap M N s.heap [] → lv_has ls maxL (lv_args 0 av) →
      W p l e rm s m av.toArray below meth c s.heap [] 0 0 (MQ below (qQ D M N post) av.toArray s mc ms (qA M N)) (F0 m 0 ls [])) (hlen : (lg_sl av).length ≤ maxL) :
    qMetZ l D cs N00 y (qws y bytes maxL ret) rm M N av post mc ms := by
  refine Met.ofW (cc := bytes) (maxL := maxL) (ret := ret) hy rfl ?_
  intro p e s m args below meth c s₁ B hml hv
  have hI := qI.start hv.1
  obtain ⟨⟨rfl, -, hK, hN⟩, hZ⟩ := hv
  have hts := atoms_spec (ws := qws y bytes maxL ret) B.pre
  rw [lg_entry_eq]
  exact body p e s m below meth c _ B.exec B.bytes B.returns B.notSynchronized hml (findClass_of_methodNamed B.named) (name_of_methodNamed B.named B.method).1 (fun w h => hts w (List.mem_cons_of_mem _ h)) hK hN hZ hI (lv_entry av hlen)
end QZ
/-- how many letters of a text stand at the place -/
def s_X3_sameLetters_L (v : qIV) (L : List Int32) : Nat → Int32 → Int32
  | 0, _ => default
  | n + 1, x => if Int32.ofNat L.length ≤ x then x else if s_X3_codeAt v (v.2.2.2.2.2.2 + x) = qch (L.getD x.toNatClampNeg 0) then s_X3_sameLetters_L v L n (x + 1) else x
def s_X3_sameLetters (v : qIV) (L : List Int32) : Int32 := s_X3_sameLetters_L v L ((Int32.ofNat L.length).toInt.toNat + 1) 0
theorem q_inc0 {x b : Int32} (h0 : ¬ x < 0) (h : ¬ b ≤ x) : ¬ x + 1 < 0 := by
  have h1 := q_nle h
  have h2 := q_nlt h0
  rw [Int32.lt_iff_toInt_lt] at h1
  rw [Int32.le_iff_toInt_le, Int32.toInt_zero] at h2
  rw [Int32.lt_iff_toInt_lt, Int32.toInt_zero]
  have hb := Int32.toInt_lt b
  have e1 : (x + 1).toInt = x.toInt + 1 := by
    rw [Int32.toInt_add]
    have : (1 : Int32).toInt = 1 := by decide
    rw [this]
    exact Int.bmod_eq_of_le (by omega) (by omega)
  omega
set_option maxHeartbeats 4000000 in
theorem c_X3_sameLetters (l : Launch) (D : va_G) (cs : qC) {N00 : Nat} {M0 : qM} {N a k : Nat} {v : qIV} (hd : qDom N00 M0 N) (hL0 : qLI cs M0 a v) (hk : k < 8) :
    qMetZ l D cs N00 yX3_sameLetters (qws yX3_sameLetters cX3_sameLetters 3 (some .int)) (qRm 4 140) M0 N [.ref a, .ref (cs (32 + k))] (qRet M0 N (.int (s_X3_sameLetters v (qWt k)))) 0 0 := by
  obtain ⟨R, hR⟩ : ∃ R, s_X3_sameLetters v (qWt k) = R := ⟨_, rfl⟩
  rw [hR]
  rw [s_X3_sameLetters] at hR
  refine z_head (by decide +kernel) ?_ (Nat.le_of_ble_eq_true rfl)
  intro p e s m below meth c ls hx hb hret hlk hml hown hnm hg hK hN hZ hI hl
  have hl : lv_has ls 3 [(0, .ref a), (1, .ref (cs (32 + k)))] := hl
  refine lv_iconst (v := 0) hx hb dX3_sameLetters_0 (by decide) ?_
  refine lv_istore_n (lv' := [(2, .int 0), (0, .ref a), (1, .ref (cs (32 + k)))]) hx hb dX3_sameLetters_1 rfl hl (by decide) rfl (fun ls hl => ?_)
  have loop : ∀ (n : Nat) (x : Int32), qmu (Int32.ofNat (qWt k).length) x < n → ¬ x < 0 → s_X3_sameLetters_L v (qWt k) n x = R → ∀ (H : Heap) (locs : List Loc) (ls : Array Slot), qI D M0 s.heap M0 N H locs → lv_has ls 3 [(2, .int x), (0, .ref a), (1, .ref (cs (32 + k)))] →
      W p l e (qRm 4 140) s m [Value.ref a, Value.ref (cs (32 + k))].toArray below meth c H locs 0 0 (MQ below (qQ D M0 N (qRet M0 N (.int R))) [Value.ref a, Value.ref (cs (32 + k))].toArray s 0 0 (qA M0 N)) (F0 m 2 ls []) := by
    intro n
    induction n with
    | zero => intro x hm; exact absurd hm (Nat.not_lt_zero _)
    | succ n ih =>
      intro x hm h0 hR H locs ls hI hl
      rw [s_X3_sameLetters_L] at hR
      have hq := (hZ.2.1 k hk).2.2.2.2.q (hI.zS hN hd)
      have hjs := hI.js hN hd hZ
      have hrc : ∃ cell : Cell, H[cs (32 + k)]? = some cell ∧ cell.vm.isStatics = false ∧ s.vm.findClass "java/lang/String" = some cell.cls := by
        obtain ⟨cell, h1, h2, h3, -⟩ := hq.1
        exact ⟨cell, h1, h2, h3⟩
      refine lv_iload_n hx hb dX3_sameLetters_2 rfl (lv_at hl 0 rfl) ?_
      refine lv_aload_n hx hb dX3_sameLetters_3 rfl (lv_at hl 2 rfl) ?_
      refine j_go (j_runV (As := []) (rest := [.int x]) hx hb hml hown hg (j_length l) v_J0_length_8abf5 wl_X3_75 rfl rfl ⟨Nat.le_of_ble_eq_true rfl, Nat.le_of_ble_eq_true rfl⟩ (qJS.st.and qStr.st) ⟨hjs, hq⟩ hrc hl.1 rfl rfl (Nat.le_of_ble_eq_true rfl) dX3_sameLetters_4 ⟨Nat.le_of_ble_eq_true rfl, Nat.le_of_ble_eq_true rfl⟩) ?_
      refine lv_icmp_ge (tgt := 34) hx hb dX3_sameLetters_7 (by decide) (fun c1 => ?_) (fun c1 => ?_)
      · rw [if_pos c1] at hR
        refine lv_iload_n hx hb dX3_sameLetters_34 rfl (lv_at hl 0 rfl) ?_
        exact q_iret hx hb hret hlk hN hI (by subst hR; exact ⟨rfl, rfl, rfl⟩) dX3_sameLetters_35
      · rw [if_neg c1] at hR
        refine lv_aload_n hx hb dX3_sameLetters_10 rfl (lv_at hl 1 rfl) ?_
        refine lv_aload_n hx hb dX3_sameLetters_11 rfl (lv_at hl 1 rfl) ?_
        refine q_get hx hb hg in_X3 hown hK hI hL0.1 rfl 6 (by decide) (hg _ wf_X3_38) (fun _ h9 => h9) rfl dX3_sameLetters_12 ?_
        refine lv_iload_n hx hb dX3_sameLetters_15 rfl (lv_at hl 0 rfl) ?_
        refine lv_iadd hx hb dX3_sameLetters_16 ?_
        refine q_goR (q_runV (As := [.int (v.2.2.2.2.2.2 + x)]) (rest := []) hx hb hml hown hg (c_X3_codeAt l D cs hL0 (v.2.2.2.2.2.2 + x)) v_X3_codeAt wl_X3_85 rfl rfl ⟨Nat.le_of_ble_eq_true rfl, Nat.le_of_ble_eq_true rfl⟩ hI hK 4 hL0.1 rfl hl.1 rfl rfl (Nat.le_of_ble_eq_true rfl) dX3_sameLetters_17 ⟨Nat.le_of_ble_eq_true rfl, Nat.le_of_ble_eq_true rfl⟩) hI (fun H locs hI => ?_)
        have hq := (hZ.2.1 k hk).2.2.2.2.q (hI.zS hN hd)
        have hjs := hI.js hN hd hZ
        have hrc : ∃ cell : Cell, H[cs (32 + k)]? = some cell ∧ cell.vm.isStatics = false ∧ s.vm.findClass "java/lang/String" = some cell.cls := by
          obtain ⟨cell, h1, h2, h3, -⟩ := hq.1
          exact ⟨cell, h1, h2, h3⟩
        refine lv_aload_n hx hb dX3_sameLetters_20 rfl (lv_at hl 2 rfl) ?_
        refine lv_iload_n hx hb dX3_sameLetters_21 rfl (lv_at hl 0 rfl) ?_
        refine j_go (j_runV (As := [.int x]) (rest := [.int (s_X3_codeAt v (v.2.2.2.2.2.2 + x))]) hx hb hml hown hg (j_charAt l h0 (q_nle c1) (qWt_lt k)) v_J0_charAt_5068e wl_X3_89 rfl rfl ⟨Nat.le_of_ble_eq_true rfl, Nat.le_of_ble_eq_true rfl⟩ (qJS.st.and qStr.st) ⟨hjs, hq⟩ hrc hl.1 rfl rfl (Nat.le_of_ble_eq_true rfl) dX3_sameLetters_22 ⟨Nat.le_of_ble_eq_true rfl, Nat.le_of_ble_eq_true rfl⟩) ?_
        refine lv_icmp_ne (tgt := 34) hx hb dX3_sameLetters_25 (by decide) (fun c2 => ?_) (fun c2 => ?_)
        · rw [if_neg c2] at hR
          refine lv_iload_n hx hb dX3_sameLetters_34 rfl (lv_at hl 0 rfl) ?_
          exact q_iret hx hb hret hlk hN hI (by subst hR; exact ⟨rfl, rfl, rfl⟩) dX3_sameLetters_35
        · rw [if_pos c2] at hR
          refine lv_iinc (v := x + 1) (lv' := [(2, .int (x + 1)), (0, .ref a), (1, .ref (cs (32 + k)))]) hx hb dX3_sameLetters_28 hl (k := 0) rfl rfl (by decide) rfl (fun ls hl => ?_)
          refine lv_goto (tgt := 2) hx hb dX3_sameLetters_31 (by decide) ?_
          exact ih (x + 1) (q_mu c1 hm) (q_inc0 h0 c1) hR H locs ls hI hl
  exact loop _ 0 (q_fuel _) (by decide) hR _ _ _ hI hl
