/-! a call with a tall stack below it: as q_runV, with 40 words of room in place of 8 -/
section QTALL
variable {p : Program} {l : Launch} {e : Env} {R : Room} {s : State} {m : MethodId} {args : Array Value} {below : List Frame} {meth : Method} {c : Code} {H : Heap} {locs : List Loc} {cells slots : Nat} {Q : State → Prop}
variable {cc : ByteArray} {pc : Nat} {ls : Array Slot} {rest : List Value} {D : va_G} {cs : qC} {M0 M : qM} {N a : Nat}
variable {y : MethodName} {bytes : ByteArray} {maxL nL mc ms n index : Nat} {ret : Option FieldType} {rm : Room} {own host : String} {b : Nat} {As st0 : List Value} {post : Option Value → qM → Nat → Prop}
theorem q_runVW (hx : p.tables.exec = Jvm.exec) (hb : c.code = cc) (hml : c.maxLocals = nL) (hown : s.vm.findClass own = some m.cls) (hg : ∀ w ∈ qG, w.before args s = true)
    (hM : qMet l D cs y (qws y bytes maxL ret) rm M N (.ref b :: As) post mc ms) (v : qVm y bytes maxL ret n) (hl : Cond.methodLink own index y ∈ qG) (hrc : rm.cells = mc) (hrs : rm.slots = ms) (hR : rm.frames + 1 ≤ R.frames ∧ 40 + (maxL + 11) + rm.locals ≤ R.locals)
    (hI : qI D M0 s.heap M N H locs) (hK : qK D cs s) (ci : Nat) {fs : List Value} {T : u_T} {NN : Nat} (hMb : M b = some (.inr (ci, fs))) (hc : vwCl[ci]? = some (y.cls, T, NN))
    (hls : ls.size = nL) (hn : As.length = n) (hst : st0 = As.reverse ++ .ref b :: rest) (hcat : (rest.map fun v => v.category).sum ≤ 40) (hdg : decode cc pc = .ok (.invokevirtual index, 3)) (hf : cells + mc ≤ R.cells ∧ slots + ms ≤ R.slots) :
    va_Run p l e R s m args below meth c H locs cells slots mc ms (F0 m pc ls st0) rest (qQ D M N post (Value.ref b :: As).toArray) (qA M N) := by
  have hG := qws_good (maxL := maxL) (ret := ret) v.1
  have hcw : Cond.code y bytes maxL ret ∈ qws y bytes maxL ret := List.mem_cons_self
  have hini := hg _ v.2.2.2.1
  have hK' : Back l R p e below s args y 3 40 (PreOf R mc ms (qPc D cs M N (.ref b :: As))) (PostOf (qQ D M N post) mc ms (qA M N)) := back_of (bytes := bytes) (maxL := maxL) (ret := ret) hM qPc_blind hrc hrs hR.1 hR.2 (pay_in hg hG) hcw (fun a' U hW => word_at hW (Or.inl (by first | rfl | simp [Cond.onTables, Cond.keeps, Cond.steady])) hini)
  obtain ⟨q', h1, cell, g1, g2, g3, -⟩ := hI.1 b _ hMb
  have hPc := (q_pre (As := .ref b :: As) hI hK).2
  intro T hT X
  obtain ⟨v', vm₁, ⟨U', l2, c2, s2⟩, hW₁, X', ⟨g', mk, t, L, e1, e2, hq, h1, hL, h2, h3⟩, st⟩ := callV X hx (C := y.cls) (bytes := bytes) (maxL := maxL) (ret := ret) hown (hg _ hl) (hg _ v.2.1) (hg _ v.2.2.1) (hg _ v.1) ⟨v.2.2.2.2.1, v.2.2.2.2.2.1⟩ hK' (by rw [hT]; exact g1) (by rw [g3]; rfl) (by rw [g2]; exact (hK.1.1 ci _ hc).2.1) (g := F0 m pc ls st0) rfl (hls.trans hml.symm) (argsL := As) (rest := rest) (fun sig h => by
      have h2 := v.2.2.2.2.2.2
      rw [h] at h2
      exact hn.trans (Option.some.inj h2).symm) hst (by show 2 * 0 + _ ≤ 40; omega) (by rw [hb]; exact hdg)
    (fun vm₁ hW₁ => ⟨hf.1, hf.2, hPc (T.setVm vm₁) hT hW₁⟩)
  dsimp only [Pt.U, Pt.locs, Pt.cells, Pt.slots] at X' e1 e2 h1 h2 h3 st
  subst h1; subst h2; subst h3
  exact ⟨v', (T.setVm vm₁).calling g' mk (Value.ref b :: As).toArray, t, U', L, hT, X', hL, e1, e2, hq, st⟩
end QTALL
def s_L_is (f : (Int32 × Int32)) (rs : qRV) (p1 : Int32) (p2 : Int32) : Bool := (if (s_X10_reason f rs 0 0) = p1 then (if (s_X10_reason f rs 0 1) = p2 then (if (s_X10_reason f rs 1 0) = (-4) then (if (s_X10_reason f rs 1 1) = (-4) then true else false) else false) else false) else false)
set_option maxHeartbeats 4000000 in
set_option maxRecDepth 20000 in
theorem c_L_is (l : Launch) (D : va_G) (cs : qC) {M0 : qM} {N a : Nat} {f : (Int32 × Int32)} {rs : qRV} (hL0 : qLX cs M0 a f) (hL1 : qLR cs M0 (a + 166) rs) (p1 : Int32) (p2 : Int32) :
    qMet l D cs yL_is (qws yL_is cL_is 3 (some .boolean)) ({ frames := 2, cells := 0, slots := 0, locals := 46 } : Room) M0 N [.ref a, .int p1, .int p2] (qRet M0 N (.int (qbi (s_L_is f rs p1 p2)))) 0 0 := by
  obtain ⟨R, hR⟩ : ∃ R, s_L_is f rs p1 p2 = R := ⟨_, rfl⟩
  rw [hR]
  rw [s_L_is] at hR
  refine q_head (by decide +kernel) ?_ (Nat.le_of_ble_eq_true rfl)
  intro p e s m below meth c ls hx hb hret hlk hml hown hnm hg hK hN hI hl
  have hl : lv_has ls 3 [(0, .ref a), (1, .int p1), (2, .int p2)] := hl
  refine lv_aload_n hx hb dL_is_0 rfl (lv_at hl 0 rfl) ?_
  refine lv_iconst (v := 0) hx hb dL_is_1 (by decide) ?_
  refine lv_iconst (v := 0) hx hb dL_is_2 (by decide) ?_
  refine q_goR (q_runV (As := [.int 0, .int 0]) (rest := []) hx hb hml hown hg (c_X10_reason l D cs hL0 hL1 0 0) v_X10_reason wl_L_26 rfl rfl ⟨Nat.le_of_ble_eq_true rfl, Nat.le_of_ble_eq_true rfl⟩ hI hK 10 hL0 rfl hl.1 rfl rfl (Nat.le_of_ble_eq_true rfl) dL_is_3 ⟨Nat.le_of_ble_eq_true rfl, Nat.le_of_ble_eq_true rfl⟩) hI (fun H locs hI => ?_)
  refine lv_iload_n hx hb dL_is_6 rfl (lv_at hl 1 rfl) ?_
  refine lv_icmp_ne (tgt := 46) hx hb dL_is_7 (by decide) (fun c1 => ?_) (fun c1 => ?_)
  · rw [if_neg c1] at hR
    refine lv_iconst (v := 0) hx hb dL_is_46 (by decide) ?_
    exact q_zret hx hb hret rfl hlk hN hI (by subst hR; exact ⟨rfl, rfl, rfl⟩) dL_is_47
  · rw [if_pos c1] at hR
    refine lv_aload_n hx hb dL_is_10 rfl (lv_at hl 0 rfl) ?_
    refine lv_iconst (v := 0) hx hb dL_is_11 (by decide) ?_
    refine lv_iconst (v := 1) hx hb dL_is_12 (by decide) ?_
    refine q_goR (q_runV (As := [.int 0, .int 1]) (rest := []) hx hb hml hown hg (c_X10_reason l D cs hL0 hL1 0 1) v_X10_reason wl_L_26 rfl rfl ⟨Nat.le_of_ble_eq_true rfl, Nat.le_of_ble_eq_true rfl⟩ hI hK 10 hL0 rfl hl.1 rfl rfl (Nat.le_of_ble_eq_true rfl) dL_is_13 ⟨Nat.le_of_ble_eq_true rfl, Nat.le_of_ble_eq_true rfl⟩) hI (fun H locs hI => ?_)
    refine lv_iload_n hx hb dL_is_16 rfl (lv_at hl 2 rfl) ?_
    refine lv_icmp_ne (tgt := 46) hx hb dL_is_17 (by decide) (fun c2 => ?_) (fun c2 => ?_)
    · rw [if_neg c2] at hR
      refine lv_iconst (v := 0) hx hb dL_is_46 (by decide) ?_
      exact q_zret hx hb hret rfl hlk hN hI (by subst hR; exact ⟨rfl, rfl, rfl⟩) dL_is_47
    · rw [if_pos c2] at hR
      refine lv_aload_n hx hb dL_is_20 rfl (lv_at hl 0 rfl) ?_
      refine lv_iconst (v := 1) hx hb dL_is_21 (by decide) ?_
      refine lv_iconst (v := 0) hx hb dL_is_22 (by decide) ?_
      refine q_goR (q_runV (As := [.int 1, .int 0]) (rest := []) hx hb hml hown hg (c_X10_reason l D cs hL0 hL1 1 0) v_X10_reason wl_L_26 rfl rfl ⟨Nat.le_of_ble_eq_true rfl, Nat.le_of_ble_eq_true rfl⟩ hI hK 10 hL0 rfl hl.1 rfl rfl (Nat.le_of_ble_eq_true rfl) dL_is_23 ⟨Nat.le_of_ble_eq_true rfl, Nat.le_of_ble_eq_true rfl⟩) hI (fun H locs hI => ?_)
      refine lv_bipush (v := (-4)) hx hb dL_is_26 (by decide) ?_
      refine lv_icmp_ne (tgt := 46) hx hb dL_is_28 (by decide) (fun c3 => ?_) (fun c3 => ?_)
      · rw [if_neg c3] at hR
        refine lv_iconst (v := 0) hx hb dL_is_46 (by decide) ?_
        exact q_zret hx hb hret rfl hlk hN hI (by subst hR; exact ⟨rfl, rfl, rfl⟩) dL_is_47
      · rw [if_pos c3] at hR
        refine lv_aload_n hx hb dL_is_31 rfl (lv_at hl 0 rfl) ?_
        refine lv_iconst (v := 1) hx hb dL_is_32 (by decide) ?_
        refine lv_iconst (v := 1) hx hb dL_is_33 (by decide) ?_
        refine q_goR (q_runV (As := [.int 1, .int 1]) (rest := []) hx hb hml hown hg (c_X10_reason l D cs hL0 hL1 1 1) v_X10_reason wl_L_26 rfl rfl ⟨Nat.le_of_ble_eq_true rfl, Nat.le_of_ble_eq_true rfl⟩ hI hK 10 hL0 rfl hl.1 rfl rfl (Nat.le_of_ble_eq_true rfl) dL_is_34 ⟨Nat.le_of_ble_eq_true rfl, Nat.le_of_ble_eq_true rfl⟩) hI (fun H locs hI => ?_)
        refine lv_bipush (v := (-4)) hx hb dL_is_37 (by decide) ?_
        refine lv_icmp_ne (tgt := 46) hx hb dL_is_39 (by decide) (fun c4 => ?_) (fun c4 => ?_)
        · rw [if_neg c4] at hR
          refine lv_iconst (v := 0) hx hb dL_is_46 (by decide) ?_
          exact q_zret hx hb hret rfl hlk hN hI (by subst hR; exact ⟨rfl, rfl, rfl⟩) dL_is_47
        · rw [if_pos c4] at hR
          refine lv_iconst (v := 1) hx hb dL_is_42 (by decide) ?_
          refine lv_goto (tgt := 47) hx hb dL_is_43 (by decide) ?_
          exact q_zret hx hb hret rfl hlk hN hI (by subst hR; exact ⟨rfl, rfl, rfl⟩) dL_is_47
def s_L_isSeven (f : (Int32 × Int32)) (rs : qRV) (p1 : Int32) (p2 : Int32) (p3 : Int32) : Bool := (if p2 = 0 then (if (s_X10_reason f rs 0 0) = 8 then (if (s_X10_reason f rs 0 1) = p1 then (if p2 = 0 then (if (s_X10_reason f rs 1 0) = (-4) then (if p2 = 0 then (if (s_X10_reason f rs 1 1) = (-4) then true else false) else (if (s_X10_reason f rs 1 1) = p3 then true else false)) else false) else (if (s_X10_reason f rs 1 0) = p2 then (if p2 = 0 then (if (s_X10_reason f rs 1 1) = (-4) then true else false) else (if (s_X10_reason f rs 1 1) = p3 then true else false)) else false)) else false) else false) else (if (s_X10_reason f rs 0 0) = 7 then (if (s_X10_reason f rs 0 1) = p1 then (if p2 = 0 then (if (s_X10_reason f rs 1 0) = (-4) then (if p2 = 0 then (if (s_X10_reason f rs 1 1) = (-4) then true else false) else (if (s_X10_reason f rs 1 1) = p3 then true else false)) else false) else (if (s_X10_reason f rs 1 0) = p2 then (if p2 = 0 then (if (s_X10_reason f rs 1 1) = (-4) then true else false) else (if (s_X10_reason f rs 1 1) = p3 then true else false)) else false)) else false) else false))
set_option maxHeartbeats 4000000 in
set_option maxRecDepth 20000 in
theorem c_L_isSeven (l : Launch) (D : va_G) (cs : qC) {M0 : qM} {N a : Nat} {f : (Int32 × Int32)} {rs : qRV} (hL0 : qLX cs M0 a f) (hL1 : qLR cs M0 (a + 166) rs) (p1 : Int32) (p2 : Int32) (p3 : Int32) :
    qMet l D cs yL_isSeven (qws yL_isSeven cL_isSeven 4 (some .boolean)) ({ frames := 2, cells := 0, slots := 0, locals := 46 } : Room) M0 N [.ref a, .int p1, .int p2, .int p3] (qRet M0 N (.int (qbi (s_L_isSeven f rs p1 p2 p3)))) 0 0 := by
  obtain ⟨R, hR⟩ : ∃ R, s_L_isSeven f rs p1 p2 p3 = R := ⟨_, rfl⟩
  rw [hR]
  rw [s_L_isSeven] at hR
  refine q_head (by decide +kernel) ?_ (Nat.le_of_ble_eq_true rfl)
  intro p e s m below meth c ls hx hb hret hlk hml hown hnm hg hK hN hI hl
  have hl : lv_has ls 4 [(0, .ref a), (1, .int p1), (2, .int p2), (3, .int p3)] := hl
  refine lv_aload_n hx hb dL_isSeven_0 rfl (lv_at hl 0 rfl) ?_
  refine lv_iconst (v := 0) hx hb dL_isSeven_1 (by decide) ?_
  refine lv_iconst (v := 0) hx hb dL_isSeven_2 (by decide) ?_
  refine q_goR (q_runV (As := [.int 0, .int 0]) (rest := []) hx hb hml hown hg (c_X10_reason l D cs hL0 hL1 0 0) v_X10_reason wl_L_26 rfl rfl ⟨Nat.le_of_ble_eq_true rfl, Nat.le_of_ble_eq_true rfl⟩ hI hK 10 hL0 rfl hl.1 rfl rfl (Nat.le_of_ble_eq_true rfl) dL_isSeven_3 ⟨Nat.le_of_ble_eq_true rfl, Nat.le_of_ble_eq_true rfl⟩) hI (fun H locs hI => ?_)
  refine lv_iload_n hx hb dL_isSeven_6 rfl (lv_at hl 2 rfl) ?_
  refine lv_if_ne (tgt := 15) hx hb dL_isSeven_7 (by decide) (fun c1 => ?_) (fun c1 => ?_)
  · rw [if_neg c1] at hR
    refine lv_bipush (v := 7) hx hb dL_isSeven_15 (by decide) ?_
    refine lv_icmp_ne (tgt := 72) hx hb dL_isSeven_17 (by decide) (fun c2 => ?_) (fun c2 => ?_)
    · rw [if_neg c2] at hR
      refine lv_iconst (v := 0) hx hb dL_isSeven_72 (by decide) ?_
      exact q_zret hx hb hret rfl hlk hN hI (by subst hR; exact ⟨rfl, rfl, rfl⟩) dL_isSeven_73
    · rw [if_pos c2] at hR
      refine lv_aload_n hx hb dL_isSeven_20 rfl (lv_at hl 0 rfl) ?_
      refine lv_iconst (v := 0) hx hb dL_isSeven_21 (by decide) ?_
      refine lv_iconst (v := 1) hx hb dL_isSeven_22 (by decide) ?_
      refine q_goR (q_runV (As := [.int 0, .int 1]) (rest := []) hx hb hml hown hg (c_X10_reason l D cs hL0 hL1 0 1) v_X10_reason wl_L_26 rfl rfl ⟨Nat.le_of_ble_eq_true rfl, Nat.le_of_ble_eq_true rfl⟩ hI hK 10 hL0 rfl hl.1 rfl rfl (Nat.le_of_ble_eq_true rfl) dL_isSeven_23 ⟨Nat.le_of_ble_eq_true rfl, Nat.le_of_ble_eq_true rfl⟩) hI (fun H locs hI => ?_)
      refine lv_iload_n hx hb dL_isSeven_26 rfl (lv_at hl 1 rfl) ?_
      refine lv_icmp_ne (tgt := 72) hx hb dL_isSeven_27 (by decide) (fun c3 => ?_) (fun c3 => ?_)
      · rw [if_neg c3] at hR
        refine lv_iconst (v := 0) hx hb dL_isSeven_72 (by decide) ?_
        exact q_zret hx hb hret rfl hlk hN hI (by subst hR; exact ⟨rfl, rfl, rfl⟩) dL_isSeven_73
      · rw [if_pos c3] at hR
        refine lv_aload_n hx hb dL_isSeven_30 rfl (lv_at hl 0 rfl) ?_
        refine lv_iconst (v := 1) hx hb dL_isSeven_31 (by decide) ?_
        refine lv_iconst (v := 0) hx hb dL_isSeven_32 (by decide) ?_
        refine q_goR (q_runV (As := [.int 1, .int 0]) (rest := []) hx hb hml hown hg (c_X10_reason l D cs hL0 hL1 1 0) v_X10_reason wl_L_26 rfl rfl ⟨Nat.le_of_ble_eq_true rfl, Nat.le_of_ble_eq_true rfl⟩ hI hK 10 hL0 rfl hl.1 rfl rfl (Nat.le_of_ble_eq_true rfl) dL_isSeven_33 ⟨Nat.le_of_ble_eq_true rfl, Nat.le_of_ble_eq_true rfl⟩) hI (fun H locs hI => ?_)
        refine lv_iload_n hx hb dL_isSeven_36 rfl (lv_at hl 2 rfl) ?_
        refine lv_if_ne (tgt := 45) hx hb dL_isSeven_37 (by decide) (fun c4 => ?_) (fun c4 => ?_)
        · rw [if_neg c4] at hR
          refine lv_iload_n hx hb dL_isSeven_45 rfl (lv_at hl 2 rfl) ?_
          refine lv_icmp_ne (tgt := 72) hx hb dL_isSeven_46 (by decide) (fun c5 => ?_) (fun c5 => ?_)
          · rw [if_neg c5] at hR
            refine lv_iconst (v := 0) hx hb dL_isSeven_72 (by decide) ?_
            exact q_zret hx hb hret rfl hlk hN hI (by subst hR; exact ⟨rfl, rfl, rfl⟩) dL_isSeven_73
          · rw [if_pos c5] at hR
            refine lv_aload_n hx hb dL_isSeven_49 rfl (lv_at hl 0 rfl) ?_
            refine lv_iconst (v := 1) hx hb dL_isSeven_50 (by decide) ?_
            refine lv_iconst (v := 1) hx hb dL_isSeven_51 (by decide) ?_
            refine q_goR (q_runV (As := [.int 1, .int 1]) (rest := []) hx hb hml hown hg (c_X10_reason l D cs hL0 hL1 1 1) v_X10_reason wl_L_26 rfl rfl ⟨Nat.le_of_ble_eq_true rfl, Nat.le_of_ble_eq_true rfl⟩ hI hK 10 hL0 rfl hl.1 rfl rfl (Nat.le_of_ble_eq_true rfl) dL_isSeven_52 ⟨Nat.le_of_ble_eq_true rfl, Nat.le_of_ble_eq_true rfl⟩) hI (fun H locs hI => ?_)
            refine lv_iload_n hx hb dL_isSeven_55 rfl (lv_at hl 2 rfl) ?_
            refine lv_if_ne (tgt := 64) hx hb dL_isSeven_56 (by decide) (fun c6 => ?_) (fun c6 => ?_)
            · rw [if_neg c6] at hR
              refine lv_iload_n hx hb dL_isSeven_64 rfl (lv_at hl 3 rfl) ?_
              refine lv_icmp_ne (tgt := 72) hx hb dL_isSeven_65 (by decide) (fun c7 => ?_) (fun c7 => ?_)
              · rw [if_neg c7] at hR
                refine lv_iconst (v := 0) hx hb dL_isSeven_72 (by decide) ?_
                exact q_zret hx hb hret rfl hlk hN hI (by subst hR; exact ⟨rfl, rfl, rfl⟩) dL_isSeven_73
              · rw [if_pos c7] at hR
                refine lv_iconst (v := 1) hx hb dL_isSeven_68 (by decide) ?_
                refine lv_goto (tgt := 73) hx hb dL_isSeven_69 (by decide) ?_
                exact q_zret hx hb hret rfl hlk hN hI (by subst hR; exact ⟨rfl, rfl, rfl⟩) dL_isSeven_73
            · rw [if_pos c6] at hR
              refine lv_bipush (v := (-4)) hx hb dL_isSeven_59 (by decide) ?_
              refine lv_goto (tgt := 65) hx hb dL_isSeven_61 (by decide) ?_
              refine lv_icmp_ne (tgt := 72) hx hb dL_isSeven_65 (by decide) (fun c8 => ?_) (fun c8 => ?_)
              · rw [if_neg c8] at hR
                refine lv_iconst (v := 0) hx hb dL_isSeven_72 (by decide) ?_
                exact q_zret hx hb hret rfl hlk hN hI (by subst hR; exact ⟨rfl, rfl, rfl⟩) dL_isSeven_73
              · rw [if_pos c8] at hR
                refine lv_iconst (v := 1) hx hb dL_isSeven_68 (by decide) ?_
                refine lv_goto (tgt := 73) hx hb dL_isSeven_69 (by decide) ?_
                exact q_zret hx hb hret rfl hlk hN hI (by subst hR; exact ⟨rfl, rfl, rfl⟩) dL_isSeven_73
        · rw [if_pos c4] at hR
          refine lv_bipush (v := (-4)) hx hb dL_isSeven_40 (by decide) ?_
          refine lv_goto (tgt := 46) hx hb dL_isSeven_42 (by decide) ?_
          refine lv_icmp_ne (tgt := 72) hx hb dL_isSeven_46 (by decide) (fun c9 => ?_) (fun c9 => ?_)
          · rw [if_neg c9] at hR
            refine lv_iconst (v := 0) hx hb dL_isSeven_72 (by decide) ?_
            exact q_zret hx hb hret rfl hlk hN hI (by subst hR; exact ⟨rfl, rfl, rfl⟩) dL_isSeven_73
          · rw [if_pos c9] at hR
            refine lv_aload_n hx hb dL_isSeven_49 rfl (lv_at hl 0 rfl) ?_
            refine lv_iconst (v := 1) hx hb dL_isSeven_50 (by decide) ?_
            refine lv_iconst (v := 1) hx hb dL_isSeven_51 (by decide) ?_
            refine q_goR (q_runV (As := [.int 1, .int 1]) (rest := []) hx hb hml hown hg (c_X10_reason l D cs hL0 hL1 1 1) v_X10_reason wl_L_26 rfl rfl ⟨Nat.le_of_ble_eq_true rfl, Nat.le_of_ble_eq_true rfl⟩ hI hK 10 hL0 rfl hl.1 rfl rfl (Nat.le_of_ble_eq_true rfl) dL_isSeven_52 ⟨Nat.le_of_ble_eq_true rfl, Nat.le_of_ble_eq_true rfl⟩) hI (fun H locs hI => ?_)
            refine lv_iload_n hx hb dL_isSeven_55 rfl (lv_at hl 2 rfl) ?_
            refine lv_if_ne (tgt := 64) hx hb dL_isSeven_56 (by decide) (fun c10 => ?_) (fun c10 => ?_)
            · rw [if_neg c10] at hR
              refine lv_iload_n hx hb dL_isSeven_64 rfl (lv_at hl 3 rfl) ?_
              refine lv_icmp_ne (tgt := 72) hx hb dL_isSeven_65 (by decide) (fun c11 => ?_) (fun c11 => ?_)
              · rw [if_neg c11] at hR
                refine lv_iconst (v := 0) hx hb dL_isSeven_72 (by decide) ?_
                exact q_zret hx hb hret rfl hlk hN hI (by subst hR; exact ⟨rfl, rfl, rfl⟩) dL_isSeven_73
              · rw [if_pos c11] at hR
                refine lv_iconst (v := 1) hx hb dL_isSeven_68 (by decide) ?_
                refine lv_goto (tgt := 73) hx hb dL_isSeven_69 (by decide) ?_
                exact q_zret hx hb hret rfl hlk hN hI (by subst hR; exact ⟨rfl, rfl, rfl⟩) dL_isSeven_73
            · rw [if_pos c10] at hR
              refine lv_bipush (v := (-4)) hx hb dL_isSeven_59 (by decide) ?_
              refine lv_goto (tgt := 65) hx hb dL_isSeven_61 (by decide) ?_
              refine lv_icmp_ne (tgt := 72) hx hb dL_isSeven_65 (by decide) (fun c12 => ?_) (fun c12 => ?_)
              · rw [if_neg c12] at hR
                refine lv_iconst (v := 0) hx hb dL_isSeven_72 (by decide) ?_
                exact q_zret hx hb hret rfl hlk hN hI (by subst hR; exact ⟨rfl, rfl, rfl⟩) dL_isSeven_73
              · rw [if_pos c12] at hR
                refine lv_iconst (v := 1) hx hb dL_isSeven_68 (by decide) ?_
                refine lv_goto (tgt := 73) hx hb dL_isSeven_69 (by decide) ?_
                exact q_zret hx hb hret rfl hlk hN hI (by subst hR; exact ⟨rfl, rfl, rfl⟩) dL_isSeven_73
  · rw [if_pos c1] at hR
    refine lv_bipush (v := 8) hx hb dL_isSeven_10 (by decide) ?_
    refine lv_goto (tgt := 17) hx hb dL_isSeven_12 (by decide) ?_
    refine lv_icmp_ne (tgt := 72) hx hb dL_isSeven_17 (by decide) (fun c13 => ?_) (fun c13 => ?_)
    · rw [if_neg c13] at hR
      refine lv_iconst (v := 0) hx hb dL_isSeven_72 (by decide) ?_
      exact q_zret hx hb hret rfl hlk hN hI (by subst hR; exact ⟨rfl, rfl, rfl⟩) dL_isSeven_73
    · rw [if_pos c13] at hR
      refine lv_aload_n hx hb dL_isSeven_20 rfl (lv_at hl 0 rfl) ?_
      refine lv_iconst (v := 0) hx hb dL_isSeven_21 (by decide) ?_
      refine lv_iconst (v := 1) hx hb dL_isSeven_22 (by decide) ?_
      refine q_goR (q_runV (As := [.int 0, .int 1]) (rest := []) hx hb hml hown hg (c_X10_reason l D cs hL0 hL1 0 1) v_X10_reason wl_L_26 rfl rfl ⟨Nat.le_of_ble_eq_true rfl, Nat.le_of_ble_eq_true rfl⟩ hI hK 10 hL0 rfl hl.1 rfl rfl (Nat.le_of_ble_eq_true rfl) dL_isSeven_23 ⟨Nat.le_of_ble_eq_true rfl, Nat.le_of_ble_eq_true rfl⟩) hI (fun H locs hI => ?_)
      refine lv_iload_n hx hb dL_isSeven_26 rfl (lv_at hl 1 rfl) ?_
      refine lv_icmp_ne (tgt := 72) hx hb dL_isSeven_27 (by decide) (fun c14 => ?_) (fun c14 => ?_)
      · rw [if_neg c14] at hR
        refine lv_iconst (v := 0) hx hb dL_isSeven_72 (by decide) ?_
        exact q_zret hx hb hret rfl hlk hN hI (by subst hR; exact ⟨rfl, rfl, rfl⟩) dL_isSeven_73
      · rw [if_pos c14] at hR
        refine lv_aload_n hx hb dL_isSeven_30 rfl (lv_at hl 0 rfl) ?_
        refine lv_iconst (v := 1) hx hb dL_isSeven_31 (by decide) ?_
        refine lv_iconst (v := 0) hx hb dL_isSeven_32 (by decide) ?_
        refine q_goR (q_runV (As := [.int 1, .int 0]) (rest := []) hx hb hml hown hg (c_X10_reason l D cs hL0 hL1 1 0) v_X10_reason wl_L_26 rfl rfl ⟨Nat.le_of_ble_eq_true rfl, Nat.le_of_ble_eq_true rfl⟩ hI hK 10 hL0 rfl hl.1 rfl rfl (Nat.le_of_ble_eq_true rfl) dL_isSeven_33 ⟨Nat.le_of_ble_eq_true rfl, Nat.le_of_ble_eq_true rfl⟩) hI (fun H locs hI => ?_)
        refine lv_iload_n hx hb dL_isSeven_36 rfl (lv_at hl 2 rfl) ?_
        refine lv_if_ne (tgt := 45) hx hb dL_isSeven_37 (by decide) (fun c15 => ?_) (fun c15 => ?_)
        · rw [if_neg c15] at hR
          refine lv_iload_n hx hb dL_isSeven_45 rfl (lv_at hl 2 rfl) ?_
          refine lv_icmp_ne (tgt := 72) hx hb dL_isSeven_46 (by decide) (fun c16 => ?_) (fun c16 => ?_)
          · rw [if_neg c16] at hR
            refine lv_iconst (v := 0) hx hb dL_isSeven_72 (by decide) ?_
            exact q_zret hx hb hret rfl hlk hN hI (by subst hR; exact ⟨rfl, rfl, rfl⟩) dL_isSeven_73
          · rw [if_pos c16] at hR
            refine lv_aload_n hx hb dL_isSeven_49 rfl (lv_at hl 0 rfl) ?_
            refine lv_iconst (v := 1) hx hb dL_isSeven_50 (by decide) ?_
            refine lv_iconst (v := 1) hx hb dL_isSeven_51 (by decide) ?_
            refine q_goR (q_runV (As := [.int 1, .int 1]) (rest := []) hx hb hml hown hg (c_X10_reason l D cs hL0 hL1 1 1) v_X10_reason wl_L_26 rfl rfl ⟨Nat.le_of_ble_eq_true rfl, Nat.le_of_ble_eq_true rfl⟩ hI hK 10 hL0 rfl hl.1 rfl rfl (Nat.le_of_ble_eq_true rfl) dL_isSeven_52 ⟨Nat.le_of_ble_eq_true rfl, Nat.le_of_ble_eq_true rfl⟩) hI (fun H locs hI => ?_)
            refine lv_iload_n hx hb dL_isSeven_55 rfl (lv_at hl 2 rfl) ?_
            refine lv_if_ne (tgt := 64) hx hb dL_isSeven_56 (by decide) (fun c17 => ?_) (fun c17 => ?_)
            · rw [if_neg c17] at hR
              refine lv_iload_n hx hb dL_isSeven_64 rfl (lv_at hl 3 rfl) ?_
              refine lv_icmp_ne (tgt := 72) hx hb dL_isSeven_65 (by decide) (fun c18 => ?_) (fun c18 => ?_)
              · rw [if_neg c18] at hR
                refine lv_iconst (v := 0) hx hb dL_isSeven_72 (by decide) ?_
                exact q_zret hx hb hret rfl hlk hN hI (by subst hR; exact ⟨rfl, rfl, rfl⟩) dL_isSeven_73
              · rw [if_pos c18] at hR
                refine lv_iconst (v := 1) hx hb dL_isSeven_68 (by decide) ?_
                refine lv_goto (tgt := 73) hx hb dL_isSeven_69 (by decide) ?_
                exact q_zret hx hb hret rfl hlk hN hI (by subst hR; exact ⟨rfl, rfl, rfl⟩) dL_isSeven_73
            · rw [if_pos c17] at hR
              refine lv_bipush (v := (-4)) hx hb dL_isSeven_59 (by decide) ?_
              refine lv_goto (tgt := 65) hx hb dL_isSeven_61 (by decide) ?_
              refine lv_icmp_ne (tgt := 72) hx hb dL_isSeven_65 (by decide) (fun c19 => ?_) (fun c19 => ?_)
              · rw [if_neg c19] at hR
                refine lv_iconst (v := 0) hx hb dL_isSeven_72 (by decide) ?_
                exact q_zret hx hb hret rfl hlk hN hI (by subst hR; exact ⟨rfl, rfl, rfl⟩) dL_isSeven_73
              · rw [if_pos c19] at hR
                refine lv_iconst (v := 1) hx hb dL_isSeven_68 (by decide) ?_
                refine lv_goto (tgt := 73) hx hb dL_isSeven_69 (by decide) ?_
                exact q_zret hx hb hret rfl hlk hN hI (by subst hR; exact ⟨rfl, rfl, rfl⟩) dL_isSeven_73
        · rw [if_pos c15] at hR
          refine lv_bipush (v := (-4)) hx hb dL_isSeven_40 (by decide) ?_
          refine lv_goto (tgt := 46) hx hb dL_isSeven_42 (by decide) ?_
          refine lv_icmp_ne (tgt := 72) hx hb dL_isSeven_46 (by decide) (fun c20 => ?_) (fun c20 => ?_)
          · rw [if_neg c20] at hR
            refine lv_iconst (v := 0) hx hb dL_isSeven_72 (by decide) ?_
            exact q_zret hx hb hret rfl hlk hN hI (by subst hR; exact ⟨rfl, rfl, rfl⟩) dL_isSeven_73
          · rw [if_pos c20] at hR
            refine lv_aload_n hx hb dL_isSeven_49 rfl (lv_at hl 0 rfl) ?_
            refine lv_iconst (v := 1) hx hb dL_isSeven_50 (by decide) ?_
            refine lv_iconst (v := 1) hx hb dL_isSeven_51 (by decide) ?_
            refine q_goR (q_runV (As := [.int 1, .int 1]) (rest := []) hx hb hml hown hg (c_X10_reason l D cs hL0 hL1 1 1) v_X10_reason wl_L_26 rfl rfl ⟨Nat.le_of_ble_eq_true rfl, Nat.le_of_ble_eq_true rfl⟩ hI hK 10 hL0 rfl hl.1 rfl rfl (Nat.le_of_ble_eq_true rfl) dL_isSeven_52 ⟨Nat.le_of_ble_eq_true rfl, Nat.le_of_ble_eq_true rfl⟩) hI (fun H locs hI => ?_)
            refine lv_iload_n hx hb dL_isSeven_55 rfl (lv_at hl 2 rfl) ?_
            refine lv_if_ne (tgt := 64) hx hb dL_isSeven_56 (by decide) (fun c21 => ?_) (fun c21 => ?_)
            · rw [if_neg c21] at hR
              refine lv_iload_n hx hb dL_isSeven_64 rfl (lv_at hl 3 rfl) ?_
              refine lv_icmp_ne (tgt := 72) hx hb dL_isSeven_65 (by decide) (fun c22 => ?_) (fun c22 => ?_)
              · rw [if_neg c22] at hR
                refine lv_iconst (v := 0) hx hb dL_isSeven_72 (by decide) ?_
                exact q_zret hx hb hret rfl hlk hN hI (by subst hR; exact ⟨rfl, rfl, rfl⟩) dL_isSeven_73
              · rw [if_pos c22] at hR
                refine lv_iconst (v := 1) hx hb dL_isSeven_68 (by decide) ?_
                refine lv_goto (tgt := 73) hx hb dL_isSeven_69 (by decide) ?_
                exact q_zret hx hb hret rfl hlk hN hI (by subst hR; exact ⟨rfl, rfl, rfl⟩) dL_isSeven_73
            · rw [if_pos c21] at hR
              refine lv_bipush (v := (-4)) hx hb dL_isSeven_59 (by decide) ?_
              refine lv_goto (tgt := 65) hx hb dL_isSeven_61 (by decide) ?_
              refine lv_icmp_ne (tgt := 72) hx hb dL_isSeven_65 (by decide) (fun c23 => ?_) (fun c23 => ?_)
              · rw [if_neg c23] at hR
                refine lv_iconst (v := 0) hx hb dL_isSeven_72 (by decide) ?_
                exact q_zret hx hb hret rfl hlk hN hI (by subst hR; exact ⟨rfl, rfl, rfl⟩) dL_isSeven_73
              · rw [if_pos c23] at hR
                refine lv_iconst (v := 1) hx hb dL_isSeven_68 (by decide) ?_
                refine lv_goto (tgt := 73) hx hb dL_isSeven_69 (by decide) ?_
                exact q_zret hx hb hret rfl hlk hN hI (by subst hR; exact ⟨rfl, rfl, rfl⟩) dL_isSeven_73
def s_L_asks_L353 (f : (Int32 × Int32)) (q : qQV) (h : qHV) (i : qIV) : Nat → Int64 → Int32 → Int32 → Int32 → qQV → qNV → (Int64 × qQV × qNV)
  | 0, _, _, _, _, _, _ => default
  | n + 1, x1h353, x3h353, x4h353, x5h353, z2, z5 => (if x4h353 ≤ x5h353 then ((31 * x1h353) + ((s_X10_ropes f q).toInt64), z2, z5) else (s_L_asks_L353 f q h i n ((31 * x1h353) + ((s_X10_written f z5 x5h353).toInt64)) x3h353 x4h353 (x5h353 + 1) z2 z5))
def s_L_asks_L310 (f : (Int32 × Int32)) (q : qQV) (h : qHV) (i : qIV) (x1h301 : Int64) (x3h301 : Int32) (x4h301 : Int32) (K301 : Int64 → Int32 → Int32 → qQV → qNV → (Int64 × qQV × qNV)) : Nat → Int64 → Int32 → qQV → qNV → (Int64 × qQV × qNV)
  | 0, _, _, _, _ => default
  | n + 1, x1h310, x5h310, z2, z5 => (if 4 ≤ x5h310 then (K301 x1h310 x3h301 (x4h301 + 1) z2 z5) else (s_L_asks_L310 f q h i x1h301 x3h301 x4h301 K301 n ((31 * x1h310) + ((s_X10_sledgeOf f q x4h301 x5h310).toInt64)) (x5h310 + 1) z2 z5))
def s_L_asks_L301 (f : (Int32 × Int32)) (q : qQV) (h : qHV) (i : qIV) : Nat → Int64 → Int32 → Int32 → qQV → qNV → (Int64 × qQV × qNV)
  | 0, _, _, _, _, _ => default
  | n + 1, x1h301, x3h301, x4h301, z2, z5 => (if 3 ≤ x4h301 then (s_L_asks_L353 f q h i ((s_X10_tellRopes f q z5).1.toInt.toNat + 1) x1h301 x3h301 (s_X10_tellRopes f q z5).1 0 z2 (s_X10_tellRopes f q z5).2) else (s_L_asks_L310 f q h i x1h301 x3h301 x4h301 (s_L_asks_L301 f q h i n) ((4 : Int32).toInt.toNat + 1) x1h301 0 z2 z5))
def s_L_asks_L265 (f : (Int32 × Int32)) (q : qQV) (h : qHV) (i : qIV) (x1h63 : Int64) (x3h63 : Int32) (x4h63 : Int32) (K63 : Int64 → Int32 → Int32 → qQV → qNV → (Int64 × qQV × qNV)) : Nat → Int64 → Int32 → Int32 → qQV → qNV → (Int64 × qQV × qNV)
  | 0, _, _, _, _, _ => default
  | n + 1, x1h265, x5h265, x6h265, z2, z5 => (if x5h265 ≤ x6h265 then (K63 x1h265 x3h63 (x4h63 + 1) z2 z5) else (s_L_asks_L265 f q h i x1h63 x3h63 x4h63 K63 n ((31 * x1h265) + ((s_X10_written f z5 x6h265).toInt64)) x5h265 (x6h265 + 1) z2 z5))
def s_L_asks_L72 (f : (Int32 × Int32)) (q : qQV) (h : qHV) (i : qIV) (x1h63 : Int64) (x3h63 : Int32) (x4h63 : Int32) (K63 : Int64 → Int32 → Int32 → qQV → qNV → (Int64 × qQV × qNV)) : Nat → Int64 → Int32 → qQV → qNV → (Int64 × qQV × qNV)
  | 0, _, _, _, _ => default
  | n + 1, x1h72, x5h72, z2, z5 => (if 7 ≤ x5h72 then (s_L_asks_L265 f q h i x1h63 x3h63 x4h63 K63 ((s_X10_tellTree f q z5 x4h63).1.toInt.toNat + 1) ((31 * ((31 * ((31 * ((31 * ((31 * ((31 * ((31 * ((31 * ((31 * ((31 * ((31 * x1h72) + ((s_X10_placeOf f q x4h63).toInt64))) + ((s_X10_ropesAbove f q x4h63).toInt64))) + (s_X10_turnsFor f q z2 x4h63).1.toInt64)) + ((s_X10_sum f q x4h63).toInt64))) + ((s_X10_sumAgain f q x4h63).toInt64))) + ((s_X10_ropeOf f q x4h63 1).toInt64))) + ((s_X10_root f q x4h63).toInt64))) + ((s_X10_rootAgain f q x4h63).toInt64))) + ((s_X10_joint f q x4h63 0).toInt64))) + ((s_X10_jointAgain f q 0 x4h63).toInt64))) + ((s_X10_ranked f q x4h63).toInt64)) (s_X10_tellTree f q z5 x4h63).1 0 (s_X10_turnsFor f q z2 x4h63).2 (s_X10_tellTree f q z5 x4h63).2) else (s_L_asks_L72 f q h i x1h63 x3h63 x4h63 K63 n ((31 * ((31 * x1h72) + ((s_X10_blockOf f q x4h63 x5h72).toInt64))) + ((s_X10_treeOf f q x4h63 x5h72).toInt64)) (x5h72 + 1) z2 z5))
def s_L_asks_L63 (f : (Int32 × Int32)) (q : qQV) (h : qHV) (i : qIV) : Nat → Int64 → Int32 → Int32 → qQV → qNV → (Int64 × qQV × qNV)
  | 0, _, _, _, _, _ => default
  | n + 1, x1h63, x3h63, x4h63, z2, z5 => (if x3h63 ≤ x4h63 then (s_L_asks_L301 f q h i ((3 : Int32).toInt.toNat + 1) x1h63 x3h63 0 z2 z5) else (s_L_asks_L72 f q h i x1h63 x3h63 x4h63 (s_L_asks_L63 f q h i n) ((7 : Int32).toInt.toNat + 1) x1h63 0 z2 z5))
def s_L_asks_L29 (f : (Int32 × Int32)) (q : qQV) (h : qHV) (i : qIV) : Nat → Int64 → Int32 → qQV → qNV → (Int64 × qQV × qNV)
  | 0, _, _, _, _ => default
  | n + 1, x1h29, x3h29, z2, z5 => (if 11 ≤ x3h29 then (s_L_asks_L63 f q h i ((s_X10_account f q h i 0).toInt.toNat + 1) x1h29 (s_X10_account f q h i 0) 0 z2 z5) else (s_L_asks_L29 f q h i n ((31 * x1h29) + ((s_X10_account f q h i x3h29).toInt64)) (x3h29 + 1) z2 z5))
def s_L_asks (f : (Int32 × Int32)) (q : qQV) (qt : qQV) (h : qHV) (i : qIV) (n : qNV)  : Int64 × qQV × qNV := (s_L_asks_L29 f q h i ((11 : Int32).toInt.toNat + 1) (((31 * (s_Jxe99ae_doubleToLongBits_ccdee  (s_X10_rootShare f q))) + ((s_Jxf58ca_floatToIntBits_5c35a  (s_X10_meanDepth f q)).toInt64)) + ((s_X10_isWell f q).toInt64)) 0 qt n)
set_option maxHeartbeats 4000000 in
set_option maxRecDepth 20000 in
theorem c_L_asks (l : Launch) (D : va_G) (cs : qC) {M0 : qM} {N a : Nat} {f : (Int32 × Int32)} {q : qQV} {qt : qQV} {h : qHV} {i : qIV} {n : qNV} (hL0 : qLX cs M0 a f) (hL1 : qLQ cs M0 (a + 1) q) (hL2 : qLQ cs M0 (a + 27) qt) (hL3 : qLH cs M0 (a + 40) h) (hL4 : qLI cs M0 (a + 159) i) (hL5 : qLN cs M0 (a + 164) n) (hz : qNaN q) :
    qMet l D cs yL_asks (qws yL_asks cL_asks 7 (some .long)) ({ frames := 23, cells := 0, slots := 0, locals := 844 } : Room) M0 N [.ref a] (qMod N (some (.long ((s_L_asks f q qt h i n).1))) (fun M' => qLQ cs M' (a + 27) ((s_L_asks f q qt h i n).2.1) ∧ qLN cs M' (a + 164) ((s_L_asks f q qt h i n).2.2) ∧ qFr (fun q => qIn (a + 27) 13 q ∨ qIn (a + 164) 2 q) M0 M')) 0 0 := by
  obtain ⟨R, hR⟩ : ∃ R, s_L_asks f q qt h i n = R := ⟨_, rfl⟩
  rw [hR]
  rw [s_L_asks] at hR
  refine q_head (by decide +kernel) ?_ (Nat.le_of_ble_eq_true rfl)
  intro p e s m below meth c ls hx hb hret hlk hml hown hnm hg hK hN hI hl
  have hl : lv_has ls 7 [(0, .ref a)] := hl
  have hS : qFr (fun q => qIn (a + 27) 13 q ∨ qIn (a + 164) 2 q) M0 M0 := qFr.rf
  refine lv_ldc2 hx hb hown (hg _ wk_L_56) dL_asks_0 ?_
  refine lv_aload_n hx hb dL_asks_3 rfl (lv_at hl 0 rfl) ?_
  refine q_goR (q_runV (As := []) (rest := [.long 31]) hx hb hml hown hg (c_X10_rootShare l D cs hL0 hL1 hz) v_X10_rootShare wl_L_58 rfl rfl ⟨Nat.le_of_ble_eq_true rfl, Nat.le_of_ble_eq_true rfl⟩ hI hK 10 hL0 rfl hl.1 rfl rfl (Nat.le_of_ble_eq_true rfl) dL_asks_4 ⟨Nat.le_of_ble_eq_true rfl, Nat.le_of_ble_eq_true rfl⟩) hI (fun H locs hI => ?_)
  refine q_goR (q_runS (As := [.double (s_X10_rootShare f q)]) (rest := [.long 31]) hx hb hml hown hg (c_Jxe99ae_doubleToLongBits_ccdee l D cs (s_X10_rootShare f q)) v_Jxe99ae_doubleToLongBits_ccdee wl_L_62 rfl rfl ⟨Nat.le_of_ble_eq_true rfl, Nat.le_of_ble_eq_true rfl⟩ hI hK hl.1 rfl rfl (Nat.le_of_ble_eq_true rfl) dL_asks_7 ⟨Nat.le_of_ble_eq_true rfl, Nat.le_of_ble_eq_true rfl⟩) hI (fun H locs hI => ?_)
  refine lv_lmul hx hb dL_asks_10 ?_
  refine lv_aload_n hx hb dL_asks_11 rfl (lv_at hl 0 rfl) ?_
  refine q_goR (q_runV (As := []) (rest := [.long (31 * (s_Jxe99ae_doubleToLongBits_ccdee  (s_X10_rootShare f q)))]) hx hb hml hown hg (c_X10_meanDepth l D cs hL0 hL1 hz) v_X10_meanDepth wl_L_68 rfl rfl ⟨Nat.le_of_ble_eq_true rfl, Nat.le_of_ble_eq_true rfl⟩ hI hK 10 hL0 rfl hl.1 rfl rfl (Nat.le_of_ble_eq_true rfl) dL_asks_12 ⟨Nat.le_of_ble_eq_true rfl, Nat.le_of_ble_eq_true rfl⟩) hI (fun H locs hI => ?_)
  refine q_goR (q_runS (As := [.float (s_X10_meanDepth f q)]) (rest := [.long (31 * (s_Jxe99ae_doubleToLongBits_ccdee  (s_X10_rootShare f q)))]) hx hb hml hown hg (c_Jxf58ca_floatToIntBits_5c35a l D cs (s_X10_meanDepth f q)) v_Jxf58ca_floatToIntBits_5c35a wl_L_72 rfl rfl ⟨Nat.le_of_ble_eq_true rfl, Nat.le_of_ble_eq_true rfl⟩ hI hK hl.1 rfl rfl (Nat.le_of_ble_eq_true rfl) dL_asks_15 ⟨Nat.le_of_ble_eq_true rfl, Nat.le_of_ble_eq_true rfl⟩) hI (fun H locs hI => ?_)
  refine lv_i2l hx hb dL_asks_18 rfl ?_
  refine lv_ladd hx hb dL_asks_19 ?_
  refine lv_aload_n hx hb dL_asks_20 rfl (lv_at hl 0 rfl) ?_
  refine q_goR (q_runV (As := []) (rest := [.long ((31 * (s_Jxe99ae_doubleToLongBits_ccdee  (s_X10_rootShare f q))) + ((s_Jxf58ca_floatToIntBits_5c35a  (s_X10_meanDepth f q)).toInt64))]) hx hb hml hown hg (c_X10_isWell l D cs hL0 hL1) v_X10_isWell wl_L_78 rfl rfl ⟨Nat.le_of_ble_eq_true rfl, Nat.le_of_ble_eq_true rfl⟩ hI hK 10 hL0 rfl hl.1 rfl rfl (Nat.le_of_ble_eq_true rfl) dL_asks_21 ⟨Nat.le_of_ble_eq_true rfl, Nat.le_of_ble_eq_true rfl⟩) hI (fun H locs hI => ?_)
  refine lv_i2l hx hb dL_asks_24 rfl ?_
  refine lv_ladd hx hb dL_asks_25 ?_
  refine lv_lstore_n (lv' := [(1, .long (((31 * (s_Jxe99ae_doubleToLongBits_ccdee  (s_X10_rootShare f q))) + ((s_Jxf58ca_floatToIntBits_5c35a  (s_X10_meanDepth f q)).toInt64)) + ((s_X10_isWell f q).toInt64))), (0, .ref a)]) hx hb dL_asks_26 rfl hl (by decide) rfl (fun ls hl => ?_)
  refine lv_iconst (v := 0) hx hb dL_asks_27 (by decide) ?_
  refine lv_istore_n (lv' := [(3, .int 0), (1, .long (((31 * (s_Jxe99ae_doubleToLongBits_ccdee  (s_X10_rootShare f q))) + ((s_Jxf58ca_floatToIntBits_5c35a  (s_X10_meanDepth f q)).toInt64)) + ((s_X10_isWell f q).toInt64))), (0, .ref a)]) hx hb dL_asks_28 rfl hl (by decide) rfl (fun ls hl => ?_)
  have loop29 : ∀ (n29 : Nat) (x1h29 : Int64) (x3h29 : Int32) (z2 : qQV) (z5 : qNV), qmu 11 x3h29 < n29 → s_L_asks_L29 f q h i n29 x1h29 x3h29 z2 z5 = R → ∀ (M : qM) (H : Heap) (locs : List Loc) (ls : Array Slot), qLX cs M a f → qLQ cs M (a + 1) q → qLQ cs M (a + 27) z2 → qLH cs M (a + 40) h → qLI cs M (a + 159) i → qLN cs M (a + 164) z5 → qFr (fun q => qIn (a + 27) 13 q ∨ qIn (a + 164) 2 q) M0 M → qI D M0 s.heap M N H locs → lv_has ls 7 [(0, .ref a), (1, .long x1h29), (3, .int x3h29)] →
      W p l e ({ frames := 23, cells := 0, slots := 0, locals := 844 } : Room) s m [Value.ref a].toArray below meth c H locs 0 0 (MQ below (qQ D M0 N (qMod N (some (.long R.1)) (fun M' => qLQ cs M' (a + 27) R.2.1 ∧ qLN cs M' (a + 164) R.2.2 ∧ qFr (fun q => qIn (a + 27) 13 q ∨ qIn (a + 164) 2 q) M0 M'))) [Value.ref a].toArray s 0 0 (qA M0 N)) (F0 m 29 ls []) := by
    intro n29
    induction n29 with
    | zero => intro x1h29 x3h29 z2 z5 hm; exact absurd hm (Nat.not_lt_zero _)
    | succ n29 ih29 =>
      intro x1h29 x3h29 z2 z5 hm29 hR M H locs ls hL0 hL1 hL2 hL3 hL4 hL5 hS hI hl
      rw [s_L_asks_L29] at hR
      refine lv_iload_n hx hb dL_asks_29 rfl (lv_at hl 2 rfl) ?_
      refine lv_bipush (v := 11) hx hb dL_asks_30 (by decide) ?_
      refine lv_icmp_ge (tgt := 54) hx hb dL_asks_32 (by decide) (fun c1 => ?_) (fun c1 => ?_)
      · rw [if_pos c1] at hR
        refine lv_aload_n hx hb dL_asks_54 rfl (lv_at hl 0 rfl) ?_
        refine lv_iconst (v := 0) hx hb dL_asks_55 (by decide) ?_
        refine q_goR (q_runV (As := [.int 0]) (rest := []) hx hb hml hown hg (c_X10_account l D cs hL0 hL1 hL3 hL4 0) v_X10_account wl_L_81 rfl rfl ⟨Nat.le_of_ble_eq_true rfl, Nat.le_of_ble_eq_true rfl⟩ hI hK 10 hL0 rfl hl.1 rfl rfl (Nat.le_of_ble_eq_true rfl) dL_asks_56 ⟨Nat.le_of_ble_eq_true rfl, Nat.le_of_ble_eq_true rfl⟩) hI (fun H locs hI => ?_)
        refine lv_istore_n (lv' := [(3, .int (s_X10_account f q h i 0)), (0, .ref a), (1, .long x1h29)]) hx hb dL_asks_59 rfl hl (by decide) rfl (fun ls hl => ?_)
        refine lv_iconst (v := 0) hx hb dL_asks_60 (by decide) ?_
        refine lv_istore (lv' := [(4, .int 0), (3, .int (s_X10_account f q h i 0)), (0, .ref a), (1, .long x1h29)]) hx hb dL_asks_61 hl (by decide) rfl (fun ls hl => ?_)
        have loop63 : ∀ (n63 : Nat) (x1h63 : Int64) (x3h63 : Int32) (x4h63 : Int32) (z2 : qQV) (z5 : qNV), qmu x3h63 x4h63 < n63 → s_L_asks_L63 f q h i n63 x1h63 x3h63 x4h63 z2 z5 = R → ∀ (M : qM) (H : Heap) (locs : List Loc) (ls : Array Slot), qLX cs M a f → qLQ cs M (a + 1) q → qLQ cs M (a + 27) z2 → qLH cs M (a + 40) h → qLI cs M (a + 159) i → qLN cs M (a + 164) z5 → qFr (fun q => qIn (a + 27) 13 q ∨ qIn (a + 164) 2 q) M0 M → qI D M0 s.heap M N H locs → lv_has ls 7 [(0, .ref a), (1, .long x1h63), (3, .int x3h63), (4, .int x4h63)] →
            W p l e ({ frames := 23, cells := 0, slots := 0, locals := 844 } : Room) s m [Value.ref a].toArray below meth c H locs 0 0 (MQ below (qQ D M0 N (qMod N (some (.long R.1)) (fun M' => qLQ cs M' (a + 27) R.2.1 ∧ qLN cs M' (a + 164) R.2.2 ∧ qFr (fun q => qIn (a + 27) 13 q ∨ qIn (a + 164) 2 q) M0 M'))) [Value.ref a].toArray s 0 0 (qA M0 N)) (F0 m 63 ls []) := by
          intro n63
          induction n63 with
          | zero => intro x1h63 x3h63 x4h63 z2 z5 hm; exact absurd hm (Nat.not_lt_zero _)
          | succ n63 ih63 =>
            intro x1h63 x3h63 x4h63 z2 z5 hm63 hR M H locs ls hL0 hL1 hL2 hL3 hL4 hL5 hS hI hl
            rw [s_L_asks_L63] at hR
            refine lv_iload hx hb dL_asks_63 (lv_at hl 3 rfl) ?_
            refine lv_iload_n hx hb dL_asks_65 rfl (lv_at hl 2 rfl) ?_
            refine lv_icmp_ge (tgt := 298) hx hb dL_asks_66 (by decide) (fun c2 => ?_) (fun c2 => ?_)
            · rw [if_pos c2] at hR
              refine lv_iconst (v := 0) hx hb dL_asks_298 (by decide) ?_
              refine lv_istore (lv' := [(4, .int 0), (0, .ref a), (1, .long x1h63), (3, .int x3h63)]) hx hb dL_asks_299 hl (by decide) rfl (fun ls hl => ?_)
              have loop301 : ∀ (n301 : Nat) (x1h301 : Int64) (x3h301 : Int32) (x4h301 : Int32) (z2 : qQV) (z5 : qNV), qmu 3 x4h301 < n301 → s_L_asks_L301 f q h i n301 x1h301 x3h301 x4h301 z2 z5 = R → ∀ (M : qM) (H : Heap) (locs : List Loc) (ls : Array Slot), qLX cs M a f → qLQ cs M (a + 1) q → qLQ cs M (a + 27) z2 → qLH cs M (a + 40) h → qLI cs M (a + 159) i → qLN cs M (a + 164) z5 → qFr (fun q => qIn (a + 27) 13 q ∨ qIn (a + 164) 2 q) M0 M → qI D M0 s.heap M N H locs → lv_has ls 7 [(0, .ref a), (1, .long x1h301), (3, .int x3h301), (4, .int x4h301)] →
                  W p l e ({ frames := 23, cells := 0, slots := 0, locals := 844 } : Room) s m [Value.ref a].toArray below meth c H locs 0 0 (MQ below (qQ D M0 N (qMod N (some (.long R.1)) (fun M' => qLQ cs M' (a + 27) R.2.1 ∧ qLN cs M' (a + 164) R.2.2 ∧ qFr (fun q => qIn (a + 27) 13 q ∨ qIn (a + 164) 2 q) M0 M'))) [Value.ref a].toArray s 0 0 (qA M0 N)) (F0 m 301 ls []) := by
                intro n301
                induction n301 with
                | zero => intro x1h301 x3h301 x4h301 z2 z5 hm; exact absurd hm (Nat.not_lt_zero _)
                | succ n301 ih301 =>
                  intro x1h301 x3h301 x4h301 z2 z5 hm301 hR M H locs ls hL0 hL1 hL2 hL3 hL4 hL5 hS hI hl
                  rw [s_L_asks_L301] at hR
                  refine lv_iload hx hb dL_asks_301 (lv_at hl 3 rfl) ?_
                  refine lv_iconst (v := 3) hx hb dL_asks_303 (by decide) ?_
                  refine lv_icmp_ge (tgt := 344) hx hb dL_asks_304 (by decide) (fun c3 => ?_) (fun c3 => ?_)
                  · rw [if_pos c3] at hR
                    refine lv_aload_n hx hb dL_asks_344 rfl (lv_at hl 0 rfl) ?_
                    refine q_goP (q_runV (As := []) (rest := []) hx hb hml hown hg (c_X10_tellRopes l D cs hL0 hL1 hL5) v_X10_tellRopes wl_L_129 rfl rfl ⟨Nat.le_of_ble_eq_true rfl, Nat.le_of_ble_eq_true rfl⟩ hI hK 10 hL0 rfl hl.1 rfl rfl (Nat.le_of_ble_eq_true rfl) dL_asks_345 ⟨Nat.le_of_ble_eq_true rfl, Nat.le_of_ble_eq_true rfl⟩) hI (fun M H locs hp hI => ?_)
                    obtain ⟨hn2, hF⟩ := hp
                    generalize heg4 : s_X10_tellRopes f q z5 = g4 at hn2 hR ⊢
                    have hn := hn2
                    have hL5 := hn
                    have hL0 := hL0.fr hF (fun q h1 h2 hq => by omega)
                    have hL1 := hL1.fr hF (fun q h1 h2 hq => by omega)
                    have hL2 := hL2.fr hF (fun q h1 h2 hq => by omega)
                    have hL3 := hL3.fr hF (fun q h1 h2 hq => by omega)
                    have hL4 := hL4.fr hF (fun q h1 h2 hq => by omega)
                    have hS := hS.tr hF (fun q hq => by omega)
                    refine lv_istore (lv' := [(4, .int g4.1), (0, .ref a), (1, .long x1h301), (3, .int x3h301)]) hx hb dL_asks_348 hl (by decide) rfl (fun ls hl => ?_)
                    refine lv_iconst (v := 0) hx hb dL_asks_350 (by decide) ?_
                    refine lv_istore (lv' := [(5, .int 0), (4, .int g4.1), (0, .ref a), (1, .long x1h301), (3, .int x3h301)]) hx hb dL_asks_351 hl (by decide) rfl (fun ls hl => ?_)
                    have loop353 : ∀ (n353 : Nat) (x1h353 : Int64) (x3h353 : Int32) (x4h353 : Int32) (x5h353 : Int32) (z2 : qQV) (z5 : qNV), qmu x4h353 x5h353 < n353 → s_L_asks_L353 f q h i n353 x1h353 x3h353 x4h353 x5h353 z2 z5 = R → ∀ (M : qM) (H : Heap) (locs : List Loc) (ls : Array Slot), qLX cs M a f → qLQ cs M (a + 1) q → qLQ cs M (a + 27) z2 → qLH cs M (a + 40) h → qLI cs M (a + 159) i → qLN cs M (a + 164) z5 → qFr (fun q => qIn (a + 27) 13 q ∨ qIn (a + 164) 2 q) M0 M → qI D M0 s.heap M N H locs → lv_has ls 7 [(0, .ref a), (1, .long x1h353), (3, .int x3h353), (4, .int x4h353), (5, .int x5h353)] →
                        W p l e ({ frames := 23, cells := 0, slots := 0, locals := 844 } : Room) s m [Value.ref a].toArray below meth c H locs 0 0 (MQ below (qQ D M0 N (qMod N (some (.long R.1)) (fun M' => qLQ cs M' (a + 27) R.2.1 ∧ qLN cs M' (a + 164) R.2.2 ∧ qFr (fun q => qIn (a + 27) 13 q ∨ qIn (a + 164) 2 q) M0 M'))) [Value.ref a].toArray s 0 0 (qA M0 N)) (F0 m 353 ls []) := by
                      intro n353
                      induction n353 with
                      | zero => intro x1h353 x3h353 x4h353 x5h353 z2 z5 hm; exact absurd hm (Nat.not_lt_zero _)
                      | succ n353 ih353 =>
                        intro x1h353 x3h353 x4h353 x5h353 z2 z5 hm353 hR M H locs ls hL0 hL1 hL2 hL3 hL4 hL5 hS hI hl
                        rw [s_L_asks_L353] at hR
                        refine lv_iload hx hb dL_asks_353 (lv_at hl 4 rfl) ?_
                        refine lv_iload hx hb dL_asks_355 (lv_at hl 3 rfl) ?_
                        refine lv_icmp_ge (tgt := 380) hx hb dL_asks_357 (by decide) (fun c5 => ?_) (fun c5 => ?_)
                        · rw [if_pos c5] at hR
                          refine lv_ldc2 hx hb hown (hg _ wk_L_56) dL_asks_380 ?_
                          refine lv_lload_n hx hb dL_asks_383 rfl (lv_at hl 1 rfl) ?_
                          refine lv_lmul hx hb dL_asks_384 ?_
                          refine lv_aload_n hx hb dL_asks_385 rfl (lv_at hl 0 rfl) ?_
                          refine q_goR (q_runV (As := []) (rest := [.long (31 * x1h353)]) hx hb hml hown hg (c_X10_ropes l D cs hL0 hL1) v_X10_ropes wl_L_132 rfl rfl ⟨Nat.le_of_ble_eq_true rfl, Nat.le_of_ble_eq_true rfl⟩ hI hK 10 hL0 rfl hl.1 rfl rfl (Nat.le_of_ble_eq_true rfl) dL_asks_386 ⟨Nat.le_of_ble_eq_true rfl, Nat.le_of_ble_eq_true rfl⟩) hI (fun H locs hI => ?_)
                          refine lv_i2l hx hb dL_asks_389 rfl ?_
                          refine lv_ladd hx hb dL_asks_390 ?_
                          exact q_lret hx hb hret hlk hN hI (by subst hR; exact ⟨rfl, ⟨hL2, hL5, hS⟩, rfl⟩) dL_asks_391
                        · rw [if_neg c5] at hR
                          refine lv_ldc2 hx hb hown (hg _ wk_L_56) dL_asks_360 ?_
                          refine lv_lload_n hx hb dL_asks_363 rfl (lv_at hl 1 rfl) ?_
                          refine lv_lmul hx hb dL_asks_364 ?_
                          refine lv_aload_n hx hb dL_asks_365 rfl (lv_at hl 0 rfl) ?_
                          refine lv_iload hx hb dL_asks_366 (lv_at hl 4 rfl) ?_
                          refine q_goR (q_runV (As := [.int x5h353]) (rest := [.long (31 * x1h353)]) hx hb hml hown hg (c_X10_written l D cs hL0 hL5 x5h353) v_X10_written wl_L_30 rfl rfl ⟨Nat.le_of_ble_eq_true rfl, Nat.le_of_ble_eq_true rfl⟩ hI hK 10 hL0 rfl hl.1 rfl rfl (Nat.le_of_ble_eq_true rfl) dL_asks_368 ⟨Nat.le_of_ble_eq_true rfl, Nat.le_of_ble_eq_true rfl⟩) hI (fun H locs hI => ?_)
                          refine lv_i2l hx hb dL_asks_371 rfl ?_
                          refine lv_ladd hx hb dL_asks_372 ?_
                          refine lv_lstore_n (lv' := [(1, .long ((31 * x1h353) + ((s_X10_written f z5 x5h353).toInt64))), (0, .ref a), (3, .int x3h353), (4, .int x4h353), (5, .int x5h353)]) hx hb dL_asks_373 rfl hl (by decide) rfl (fun ls hl => ?_)
                          refine lv_iinc (v := x5h353 + 1) (lv' := [(5, .int (x5h353 + 1)), (1, .long ((31 * x1h353) + ((s_X10_written f z5 x5h353).toInt64))), (0, .ref a), (3, .int x3h353), (4, .int x4h353)]) hx hb dL_asks_374 hl (k := 4) rfl rfl (by decide) rfl (fun ls hl => ?_)
                          refine lv_goto (tgt := 353) hx hb dL_asks_377 (by decide) ?_
                          exact ih353 ((31 * x1h353) + ((s_X10_written f z5 x5h353).toInt64)) x3h353 x4h353 (x5h353 + 1) z2 z5 (q_mu c5 hm353) hR _ _ _ _ hL0 hL1 hL2 hL3 hL4 hL5 hS hI (lv_sub hl [2, 1, 3, 4, 0] rfl)
                    exact loop353 _ x1h301 x3h301 g4.1 0 z2 g4.2 (q_fuel _) hR _ _ _ _ hL0 hL1 hL2 hL3 hL4 hL5 hS hI (lv_sub hl [2, 3, 4, 1, 0] rfl)
                  · rw [if_neg c3] at hR
                    refine lv_iconst (v := 0) hx hb dL_asks_307 (by decide) ?_
                    refine lv_istore (lv' := [(5, .int 0), (0, .ref a), (1, .long x1h301), (3, .int x3h301), (4, .int x4h301)]) hx hb dL_asks_308 hl (by decide) rfl (fun ls hl => ?_)
                    have loop310 : ∀ (n310 : Nat) (x1h310 : Int64) (x5h310 : Int32) (z2 : qQV) (z5 : qNV), qmu 4 x5h310 < n310 → s_L_asks_L310 f q h i x1h301 x3h301 x4h301 (s_L_asks_L301 f q h i n301) n310 x1h310 x5h310 z2 z5 = R → ∀ (M : qM) (H : Heap) (locs : List Loc) (ls : Array Slot), qLX cs M a f → qLQ cs M (a + 1) q → qLQ cs M (a + 27) z2 → qLH cs M (a + 40) h → qLI cs M (a + 159) i → qLN cs M (a + 164) z5 → qFr (fun q => qIn (a + 27) 13 q ∨ qIn (a + 164) 2 q) M0 M → qI D M0 s.heap M N H locs → lv_has ls 7 [(0, .ref a), (1, .long x1h310), (3, .int x3h301), (4, .int x4h301), (5, .int x5h310)] →
                        W p l e ({ frames := 23, cells := 0, slots := 0, locals := 844 } : Room) s m [Value.ref a].toArray below meth c H locs 0 0 (MQ below (qQ D M0 N (qMod N (some (.long R.1)) (fun M' => qLQ cs M' (a + 27) R.2.1 ∧ qLN cs M' (a + 164) R.2.2 ∧ qFr (fun q => qIn (a + 27) 13 q ∨ qIn (a + 164) 2 q) M0 M'))) [Value.ref a].toArray s 0 0 (qA M0 N)) (F0 m 310 ls []) := by
                      intro n310
                      induction n310 with
                      | zero => intro x1h310 x5h310 z2 z5 hm; exact absurd hm (Nat.not_lt_zero _)
                      | succ n310 ih310 =>
                        intro x1h310 x5h310 z2 z5 hm310 hR M H locs ls hL0 hL1 hL2 hL3 hL4 hL5 hS hI hl
                        rw [s_L_asks_L310] at hR
                        refine lv_iload hx hb dL_asks_310 (lv_at hl 4 rfl) ?_
                        refine lv_iconst (v := 4) hx hb dL_asks_312 (by decide) ?_
                        refine lv_icmp_ge (tgt := 338) hx hb dL_asks_313 (by decide) (fun c6 => ?_) (fun c6 => ?_)
                        · rw [if_pos c6] at hR
                          refine lv_iinc (v := x4h301 + 1) (lv' := [(4, .int (x4h301 + 1)), (0, .ref a), (1, .long x1h310), (3, .int x3h301), (5, .int x5h310)]) hx hb dL_asks_338 hl (k := 3) rfl rfl (by decide) rfl (fun ls hl => ?_)
                          refine lv_goto (tgt := 301) hx hb dL_asks_341 (by decide) ?_
                          exact ih301 x1h310 x3h301 (x4h301 + 1) z2 z5 (q_mu c3 hm301) hR _ _ _ _ hL0 hL1 hL2 hL3 hL4 hL5 hS hI (lv_sub hl [1, 2, 3, 0] rfl)
                        · rw [if_neg c6] at hR
                          refine lv_ldc2 hx hb hown (hg _ wk_L_56) dL_asks_316 ?_
                          refine lv_lload_n hx hb dL_asks_319 rfl (lv_at hl 1 rfl) ?_
                          refine lv_lmul hx hb dL_asks_320 ?_
                          refine lv_aload_n hx hb dL_asks_321 rfl (lv_at hl 0 rfl) ?_
                          refine lv_iload hx hb dL_asks_322 (lv_at hl 3 rfl) ?_
                          refine lv_iload hx hb dL_asks_324 (lv_at hl 4 rfl) ?_
                          refine q_goR (q_runV (As := [.int x4h301, .int x5h310]) (rest := [.long (31 * x1h310)]) hx hb hml hown hg (c_X10_sledgeOf l D cs hL0 hL1 x4h301 x5h310) v_X10_sledgeOf wl_L_126 rfl rfl ⟨Nat.le_of_ble_eq_true rfl, Nat.le_of_ble_eq_true rfl⟩ hI hK 10 hL0 rfl hl.1 rfl rfl (Nat.le_of_ble_eq_true rfl) dL_asks_326 ⟨Nat.le_of_ble_eq_true rfl, Nat.le_of_ble_eq_true rfl⟩) hI (fun H locs hI => ?_)
                          refine lv_i2l hx hb dL_asks_329 rfl ?_
                          refine lv_ladd hx hb dL_asks_330 ?_
                          refine lv_lstore_n (lv' := [(1, .long ((31 * x1h310) + ((s_X10_sledgeOf f q x4h301 x5h310).toInt64))), (0, .ref a), (3, .int x3h301), (4, .int x4h301), (5, .int x5h310)]) hx hb dL_asks_331 rfl hl (by decide) rfl (fun ls hl => ?_)
                          refine lv_iinc (v := x5h310 + 1) (lv' := [(5, .int (x5h310 + 1)), (1, .long ((31 * x1h310) + ((s_X10_sledgeOf f q x4h301 x5h310).toInt64))), (0, .ref a), (3, .int x3h301), (4, .int x4h301)]) hx hb dL_asks_332 hl (k := 4) rfl rfl (by decide) rfl (fun ls hl => ?_)
                          refine lv_goto (tgt := 310) hx hb dL_asks_335 (by decide) ?_
                          exact ih310 ((31 * x1h310) + ((s_X10_sledgeOf f q x4h301 x5h310).toInt64)) (x5h310 + 1) z2 z5 (q_mu c6 hm310) hR _ _ _ _ hL0 hL1 hL2 hL3 hL4 hL5 hS hI (lv_sub hl [2, 1, 3, 4, 0] rfl)
                    exact loop310 _ x1h301 0 z2 z5 (q_fuel _) hR _ _ _ _ hL0 hL1 hL2 hL3 hL4 hL5 hS hI (lv_sub hl [1, 2, 3, 4, 0] rfl)
              exact loop301 _ x1h63 x3h63 0 z2 z5 (q_fuel _) hR _ _ _ _ hL0 hL1 hL2 hL3 hL4 hL5 hS hI (lv_sub hl [1, 2, 3, 0] rfl)
            · rw [if_neg c2] at hR
              refine lv_iconst (v := 0) hx hb dL_asks_69 (by decide) ?_
              refine lv_istore (lv' := [(5, .int 0), (0, .ref a), (1, .long x1h63), (3, .int x3h63), (4, .int x4h63)]) hx hb dL_asks_70 hl (by decide) rfl (fun ls hl => ?_)
              have loop72 : ∀ (n72 : Nat) (x1h72 : Int64) (x5h72 : Int32) (z2 : qQV) (z5 : qNV), qmu 7 x5h72 < n72 → s_L_asks_L72 f q h i x1h63 x3h63 x4h63 (s_L_asks_L63 f q h i n63) n72 x1h72 x5h72 z2 z5 = R → ∀ (M : qM) (H : Heap) (locs : List Loc) (ls : Array Slot), qLX cs M a f → qLQ cs M (a + 1) q → qLQ cs M (a + 27) z2 → qLH cs M (a + 40) h → qLI cs M (a + 159) i → qLN cs M (a + 164) z5 → qFr (fun q => qIn (a + 27) 13 q ∨ qIn (a + 164) 2 q) M0 M → qI D M0 s.heap M N H locs → lv_has ls 7 [(0, .ref a), (1, .long x1h72), (3, .int x3h63), (4, .int x4h63), (5, .int x5h72)] →
                  W p l e ({ frames := 23, cells := 0, slots := 0, locals := 844 } : Room) s m [Value.ref a].toArray below meth c H locs 0 0 (MQ below (qQ D M0 N (qMod N (some (.long R.1)) (fun M' => qLQ cs M' (a + 27) R.2.1 ∧ qLN cs M' (a + 164) R.2.2 ∧ qFr (fun q => qIn (a + 27) 13 q ∨ qIn (a + 164) 2 q) M0 M'))) [Value.ref a].toArray s 0 0 (qA M0 N)) (F0 m 72 ls []) := by
                intro n72
                induction n72 with
                | zero => intro x1h72 x5h72 z2 z5 hm; exact absurd hm (Nat.not_lt_zero _)
                | succ n72 ih72 =>
                  intro x1h72 x5h72 z2 z5 hm72 hR M H locs ls hL0 hL1 hL2 hL3 hL4 hL5 hS hI hl
                  rw [s_L_asks_L72] at hR
                  refine lv_iload hx hb dL_asks_72 (lv_at hl 4 rfl) ?_
                  refine lv_bipush (v := 7) hx hb dL_asks_74 (by decide) ?_
                  refine lv_icmp_ge (tgt := 115) hx hb dL_asks_76 (by decide) (fun c7 => ?_) (fun c7 => ?_)
                  · rw [if_pos c7] at hR
                    refine lv_ldc2 hx hb hown (hg _ wk_L_56) dL_asks_115 ?_
                    refine lv_ldc2 hx hb hown (hg _ wk_L_56) dL_asks_118 ?_
                    refine lv_ldc2 hx hb hown (hg _ wk_L_56) dL_asks_121 ?_
                    refine lv_ldc2 hx hb hown (hg _ wk_L_56) dL_asks_124 ?_
                    refine lv_ldc2 hx hb hown (hg _ wk_L_56) dL_asks_127 ?_
                    refine lv_ldc2 hx hb hown (hg _ wk_L_56) dL_asks_130 ?_
                    refine lv_lload_n hx hb dL_asks_133 rfl (lv_at hl 1 rfl) ?_
                    refine lv_lmul hx hb dL_asks_134 ?_
                    refine lv_aload_n hx hb dL_asks_135 rfl (lv_at hl 0 rfl) ?_
                    refine lv_iload hx hb dL_asks_136 (lv_at hl 3 rfl) ?_
                    refine q_goR (q_runVW (As := [.int x4h63]) (rest := [.long (31 * x1h72), .long 31, .long 31, .long 31, .long 31, .long 31]) hx hb hml hown hg (c_X10_placeOf l D cs hL0 hL1 x4h63) v_X10_placeOf wl_L_90 rfl rfl ⟨Nat.le_of_ble_eq_true rfl, Nat.le_of_ble_eq_true rfl⟩ hI hK 10 hL0 rfl hl.1 rfl rfl (Nat.le_of_ble_eq_true rfl) dL_asks_138 ⟨Nat.le_of_ble_eq_true rfl, Nat.le_of_ble_eq_true rfl⟩) hI (fun H locs hI => ?_)
                    refine lv_i2l hx hb dL_asks_141 rfl ?_
                    refine lv_ladd hx hb dL_asks_142 ?_
                    refine lv_lmul hx hb dL_asks_143 ?_
                    refine lv_aload_n hx hb dL_asks_144 rfl (lv_at hl 0 rfl) ?_
                    refine lv_iload hx hb dL_asks_145 (lv_at hl 3 rfl) ?_
                    refine q_goR (q_runVW (As := [.int x4h63]) (rest := [.long (31 * ((31 * x1h72) + ((s_X10_placeOf f q x4h63).toInt64))), .long 31, .long 31, .long 31, .long 31]) hx hb hml hown hg (c_X10_ropesAbove l D cs hL0 hL1 x4h63) v_X10_ropesAbove wl_L_93 rfl rfl ⟨Nat.le_of_ble_eq_true rfl, Nat.le_of_ble_eq_true rfl⟩ hI hK 10 hL0 rfl hl.1 rfl rfl (Nat.le_of_ble_eq_true rfl) dL_asks_147 ⟨Nat.le_of_ble_eq_true rfl, Nat.le_of_ble_eq_true rfl⟩) hI (fun H locs hI => ?_)
                    refine lv_i2l hx hb dL_asks_150 rfl ?_
                    refine lv_ladd hx hb dL_asks_151 ?_
                    refine lv_lmul hx hb dL_asks_152 ?_
                    refine lv_aload_n hx hb dL_asks_153 rfl (lv_at hl 0 rfl) ?_
                    refine lv_iload hx hb dL_asks_154 (lv_at hl 3 rfl) ?_
                    refine q_goP (q_runV (As := [.int x4h63]) (rest := [.long (31 * ((31 * ((31 * x1h72) + ((s_X10_placeOf f q x4h63).toInt64))) + ((s_X10_ropesAbove f q x4h63).toInt64))), .long 31, .long 31, .long 31]) hx hb hml hown hg (c_X10_turnsFor l D cs hL0 hL1 hL2 x4h63) v_X10_turnsFor wl_L_96 rfl rfl ⟨Nat.le_of_ble_eq_true rfl, Nat.le_of_ble_eq_true rfl⟩ hI hK 10 hL0 rfl hl.1 rfl rfl (Nat.le_of_ble_eq_true rfl) dL_asks_156 ⟨Nat.le_of_ble_eq_true rfl, Nat.le_of_ble_eq_true rfl⟩) hI (fun M H locs hp hI => ?_)
                    obtain ⟨hn2, hF⟩ := hp
                    generalize heg8 : s_X10_turnsFor f q z2 x4h63 = g8 at hn2 hR ⊢
                    have hn := hn2
                    have hL2 := hn
                    have hL0 := hL0.fr hF (fun q h1 h2 hq => by omega)
                    have hL1 := hL1.fr hF (fun q h1 h2 hq => by omega)
                    have hL3 := hL3.fr hF (fun q h1 h2 hq => by omega)
                    have hL4 := hL4.fr hF (fun q h1 h2 hq => by omega)
                    have hL5 := hL5.fr hF (fun q h1 h2 hq => by omega)
                    have hS := hS.tr hF (fun q hq => by omega)
                    refine lv_i2l hx hb dL_asks_159 rfl ?_
                    refine lv_ladd hx hb dL_asks_160 ?_
                    refine lv_lmul hx hb dL_asks_161 ?_
                    refine lv_aload_n hx hb dL_asks_162 rfl (lv_at hl 0 rfl) ?_
                    refine lv_iload hx hb dL_asks_163 (lv_at hl 3 rfl) ?_
                    refine q_goR (q_runV (As := [.int x4h63]) (rest := [.long (31 * ((31 * ((31 * ((31 * x1h72) + ((s_X10_placeOf f q x4h63).toInt64))) + ((s_X10_ropesAbove f q x4h63).toInt64))) + g8.1.toInt64)), .long 31, .long 31]) hx hb hml hown hg (c_X10_sum l D cs hL0 hL1 x4h63) v_X10_sum wl_L_99 rfl rfl ⟨Nat.le_of_ble_eq_true rfl, Nat.le_of_ble_eq_true rfl⟩ hI hK 10 hL0 rfl hl.1 rfl rfl (Nat.le_of_ble_eq_true rfl) dL_asks_165 ⟨Nat.le_of_ble_eq_true rfl, Nat.le_of_ble_eq_true rfl⟩) hI (fun H locs hI => ?_)
                    refine lv_i2l hx hb dL_asks_168 rfl ?_
                    refine lv_ladd hx hb dL_asks_169 ?_
                    refine lv_lmul hx hb dL_asks_170 ?_
                    refine lv_aload_n hx hb dL_asks_171 rfl (lv_at hl 0 rfl) ?_
                    refine lv_iload hx hb dL_asks_172 (lv_at hl 3 rfl) ?_
                    refine q_goR (q_runV (As := [.int x4h63]) (rest := [.long (31 * ((31 * ((31 * ((31 * ((31 * x1h72) + ((s_X10_placeOf f q x4h63).toInt64))) + ((s_X10_ropesAbove f q x4h63).toInt64))) + g8.1.toInt64)) + ((s_X10_sum f q x4h63).toInt64))), .long 31]) hx hb hml hown hg (c_X10_sumAgain l D cs hL0 hL1 x4h63) v_X10_sumAgain wl_L_102 rfl rfl ⟨Nat.le_of_ble_eq_true rfl, Nat.le_of_ble_eq_true rfl⟩ hI hK 10 hL0 rfl hl.1 rfl rfl (Nat.le_of_ble_eq_true rfl) dL_asks_174 ⟨Nat.le_of_ble_eq_true rfl, Nat.le_of_ble_eq_true rfl⟩) hI (fun H locs hI => ?_)
                    refine lv_i2l hx hb dL_asks_177 rfl ?_
                    refine lv_ladd hx hb dL_asks_178 ?_
                    refine lv_lmul hx hb dL_asks_179 ?_
                    refine lv_aload_n hx hb dL_asks_180 rfl (lv_at hl 0 rfl) ?_
                    refine lv_iload hx hb dL_asks_181 (lv_at hl 3 rfl) ?_
                    refine lv_iconst (v := 1) hx hb dL_asks_183 (by decide) ?_
                    refine q_goR (q_runV (As := [.int x4h63, .int 1]) (rest := [.long (31 * ((31 * ((31 * ((31 * ((31 * ((31 * x1h72) + ((s_X10_placeOf f q x4h63).toInt64))) + ((s_X10_ropesAbove f q x4h63).toInt64))) + g8.1.toInt64)) + ((s_X10_sum f q x4h63).toInt64))) + ((s_X10_sumAgain f q x4h63).toInt64)))]) hx hb hml hown hg (c_X10_ropeOf l D cs hL0 hL1 x4h63 1) v_X10_ropeOf wl_L_105 rfl rfl ⟨Nat.le_of_ble_eq_true rfl, Nat.le_of_ble_eq_true rfl⟩ hI hK 10 hL0 rfl hl.1 rfl rfl (Nat.le_of_ble_eq_true rfl) dL_asks_184 ⟨Nat.le_of_ble_eq_true rfl, Nat.le_of_ble_eq_true rfl⟩) hI (fun H locs hI => ?_)
                    refine lv_i2l hx hb dL_asks_187 rfl ?_
                    refine lv_ladd hx hb dL_asks_188 ?_
                    refine lv_lstore_n (lv' := [(1, .long ((31 * ((31 * ((31 * ((31 * ((31 * ((31 * x1h72) + ((s_X10_placeOf f q x4h63).toInt64))) + ((s_X10_ropesAbove f q x4h63).toInt64))) + g8.1.toInt64)) + ((s_X10_sum f q x4h63).toInt64))) + ((s_X10_sumAgain f q x4h63).toInt64))) + ((s_X10_ropeOf f q x4h63 1).toInt64))), (0, .ref a), (3, .int x3h63), (4, .int x4h63), (5, .int x5h72)]) hx hb dL_asks_189 rfl hl (by decide) rfl (fun ls hl => ?_)
                    refine lv_ldc2 hx hb hown (hg _ wk_L_56) dL_asks_190 ?_
                    refine lv_ldc2 hx hb hown (hg _ wk_L_56) dL_asks_193 ?_
                    refine lv_ldc2 hx hb hown (hg _ wk_L_56) dL_asks_196 ?_
                    refine lv_ldc2 hx hb hown (hg _ wk_L_56) dL_asks_199 ?_
                    refine lv_ldc2 hx hb hown (hg _ wk_L_56) dL_asks_202 ?_
                    refine lv_lload_n hx hb dL_asks_205 rfl (lv_at hl 0 rfl) ?_
                    refine lv_lmul hx hb dL_asks_206 ?_
                    refine lv_aload_n hx hb dL_asks_207 rfl (lv_at hl 1 rfl) ?_
                    refine lv_iload hx hb dL_asks_208 (lv_at hl 3 rfl) ?_
                    refine q_goR (q_runVW (As := [.int x4h63]) (rest := [.long (31 * ((31 * ((31 * ((31 * ((31 * ((31 * ((31 * x1h72) + ((s_X10_placeOf f q x4h63).toInt64))) + ((s_X10_ropesAbove f q x4h63).toInt64))) + g8.1.toInt64)) + ((s_X10_sum f q x4h63).toInt64))) + ((s_X10_sumAgain f q x4h63).toInt64))) + ((s_X10_ropeOf f q x4h63 1).toInt64))), .long 31, .long 31, .long 31, .long 31]) hx hb hml hown hg (c_X10_root l D cs hL0 hL1 x4h63) v_X10_root wl_L_108 rfl rfl ⟨Nat.le_of_ble_eq_true rfl, Nat.le_of_ble_eq_true rfl⟩ hI hK 10 hL0 rfl hl.1 rfl rfl (Nat.le_of_ble_eq_true rfl) dL_asks_210 ⟨Nat.le_of_ble_eq_true rfl, Nat.le_of_ble_eq_true rfl⟩) hI (fun H locs hI => ?_)
                    refine lv_i2l hx hb dL_asks_213 rfl ?_
                    refine lv_ladd hx hb dL_asks_214 ?_
                    refine lv_lmul hx hb dL_asks_215 ?_
                    refine lv_aload_n hx hb dL_asks_216 rfl (lv_at hl 1 rfl) ?_
                    refine lv_iload hx hb dL_asks_217 (lv_at hl 3 rfl) ?_
                    refine q_goR (q_runV (As := [.int x4h63]) (rest := [.long (31 * ((31 * ((31 * ((31 * ((31 * ((31 * ((31 * ((31 * x1h72) + ((s_X10_placeOf f q x4h63).toInt64))) + ((s_X10_ropesAbove f q x4h63).toInt64))) + g8.1.toInt64)) + ((s_X10_sum f q x4h63).toInt64))) + ((s_X10_sumAgain f q x4h63).toInt64))) + ((s_X10_ropeOf f q x4h63 1).toInt64))) + ((s_X10_root f q x4h63).toInt64))), .long 31, .long 31, .long 31]) hx hb hml hown hg (c_X10_rootAgain l D cs hL0 hL1 x4h63) v_X10_rootAgain wl_L_111 rfl rfl ⟨Nat.le_of_ble_eq_true rfl, Nat.le_of_ble_eq_true rfl⟩ hI hK 10 hL0 rfl hl.1 rfl rfl (Nat.le_of_ble_eq_true rfl) dL_asks_219 ⟨Nat.le_of_ble_eq_true rfl, Nat.le_of_ble_eq_true rfl⟩) hI (fun H locs hI => ?_)
                    refine lv_i2l hx hb dL_asks_222 rfl ?_
                    refine lv_ladd hx hb dL_asks_223 ?_
                    refine lv_lmul hx hb dL_asks_224 ?_
                    refine lv_aload_n hx hb dL_asks_225 rfl (lv_at hl 1 rfl) ?_
                    refine lv_iload hx hb dL_asks_226 (lv_at hl 3 rfl) ?_
                    refine lv_iconst (v := 0) hx hb dL_asks_228 (by decide) ?_
                    refine q_goR (q_runV (As := [.int x4h63, .int 0]) (rest := [.long (31 * ((31 * ((31 * ((31 * ((31 * ((31 * ((31 * ((31 * ((31 * x1h72) + ((s_X10_placeOf f q x4h63).toInt64))) + ((s_X10_ropesAbove f q x4h63).toInt64))) + g8.1.toInt64)) + ((s_X10_sum f q x4h63).toInt64))) + ((s_X10_sumAgain f q x4h63).toInt64))) + ((s_X10_ropeOf f q x4h63 1).toInt64))) + ((s_X10_root f q x4h63).toInt64))) + ((s_X10_rootAgain f q x4h63).toInt64))), .long 31, .long 31]) hx hb hml hown hg (c_X10_joint l D cs hL0 hL1 x4h63 0) v_X10_joint wl_L_114 rfl rfl ⟨Nat.le_of_ble_eq_true rfl, Nat.le_of_ble_eq_true rfl⟩ hI hK 10 hL0 rfl hl.1 rfl rfl (Nat.le_of_ble_eq_true rfl) dL_asks_229 ⟨Nat.le_of_ble_eq_true rfl, Nat.le_of_ble_eq_true rfl⟩) hI (fun H locs hI => ?_)
                    refine lv_i2l hx hb dL_asks_232 rfl ?_
                    refine lv_ladd hx hb dL_asks_233 ?_
                    refine lv_lmul hx hb dL_asks_234 ?_
                    refine lv_aload_n hx hb dL_asks_235 rfl (lv_at hl 1 rfl) ?_
                    refine lv_iconst (v := 0) hx hb dL_asks_236 (by decide) ?_
                    refine lv_iload hx hb dL_asks_237 (lv_at hl 3 rfl) ?_
                    refine q_goR (q_runV (As := [.int 0, .int x4h63]) (rest := [.long (31 * ((31 * ((31 * ((31 * ((31 * ((31 * ((31 * ((31 * ((31 * ((31 * x1h72) + ((s_X10_placeOf f q x4h63).toInt64))) + ((s_X10_ropesAbove f q x4h63).toInt64))) + g8.1.toInt64)) + ((s_X10_sum f q x4h63).toInt64))) + ((s_X10_sumAgain f q x4h63).toInt64))) + ((s_X10_ropeOf f q x4h63 1).toInt64))) + ((s_X10_root f q x4h63).toInt64))) + ((s_X10_rootAgain f q x4h63).toInt64))) + ((s_X10_joint f q x4h63 0).toInt64))), .long 31]) hx hb hml hown hg (c_X10_jointAgain l D cs hL0 hL1 0 x4h63) v_X10_jointAgain wl_L_117 rfl rfl ⟨Nat.le_of_ble_eq_true rfl, Nat.le_of_ble_eq_true rfl⟩ hI hK 10 hL0 rfl hl.1 rfl rfl (Nat.le_of_ble_eq_true rfl) dL_asks_239 ⟨Nat.le_of_ble_eq_true rfl, Nat.le_of_ble_eq_true rfl⟩) hI (fun H locs hI => ?_)
                    refine lv_i2l hx hb dL_asks_242 rfl ?_
                    refine lv_ladd hx hb dL_asks_243 ?_
                    refine lv_lmul hx hb dL_asks_244 ?_
                    refine lv_aload_n hx hb dL_asks_245 rfl (lv_at hl 1 rfl) ?_
                    refine lv_iload hx hb dL_asks_246 (lv_at hl 3 rfl) ?_
                    refine q_goR (q_runV (As := [.int x4h63]) (rest := [.long (31 * ((31 * ((31 * ((31 * ((31 * ((31 * ((31 * ((31 * ((31 * ((31 * ((31 * x1h72) + ((s_X10_placeOf f q x4h63).toInt64))) + ((s_X10_ropesAbove f q x4h63).toInt64))) + g8.1.toInt64)) + ((s_X10_sum f q x4h63).toInt64))) + ((s_X10_sumAgain f q x4h63).toInt64))) + ((s_X10_ropeOf f q x4h63 1).toInt64))) + ((s_X10_root f q x4h63).toInt64))) + ((s_X10_rootAgain f q x4h63).toInt64))) + ((s_X10_joint f q x4h63 0).toInt64))) + ((s_X10_jointAgain f q 0 x4h63).toInt64)))]) hx hb hml hown hg (c_X10_ranked l D cs hL0 hL1 x4h63) v_X10_ranked wl_L_120 rfl rfl ⟨Nat.le_of_ble_eq_true rfl, Nat.le_of_ble_eq_true rfl⟩ hI hK 10 hL0 rfl hl.1 rfl rfl (Nat.le_of_ble_eq_true rfl) dL_asks_248 ⟨Nat.le_of_ble_eq_true rfl, Nat.le_of_ble_eq_true rfl⟩) hI (fun H locs hI => ?_)
                    refine lv_i2l hx hb dL_asks_251 rfl ?_
                    refine lv_ladd hx hb dL_asks_252 ?_
                    refine lv_lstore_n (lv' := [(1, .long ((31 * ((31 * ((31 * ((31 * ((31 * ((31 * ((31 * ((31 * ((31 * ((31 * ((31 * x1h72) + ((s_X10_placeOf f q x4h63).toInt64))) + ((s_X10_ropesAbove f q x4h63).toInt64))) + g8.1.toInt64)) + ((s_X10_sum f q x4h63).toInt64))) + ((s_X10_sumAgain f q x4h63).toInt64))) + ((s_X10_ropeOf f q x4h63 1).toInt64))) + ((s_X10_root f q x4h63).toInt64))) + ((s_X10_rootAgain f q x4h63).toInt64))) + ((s_X10_joint f q x4h63 0).toInt64))) + ((s_X10_jointAgain f q 0 x4h63).toInt64))) + ((s_X10_ranked f q x4h63).toInt64))), (0, .ref a), (3, .int x3h63), (4, .int x4h63), (5, .int x5h72)]) hx hb dL_asks_253 rfl hl (by decide) rfl (fun ls hl => ?_)
                    refine lv_aload_n hx hb dL_asks_254 rfl (lv_at hl 1 rfl) ?_
                    refine lv_iload hx hb dL_asks_255 (lv_at hl 3 rfl) ?_
                    refine q_goP (q_runV (As := [.int x4h63]) (rest := []) hx hb hml hown hg (c_X10_tellTree l D cs hL0 hL1 hL5 x4h63) v_X10_tellTree wl_L_123 rfl rfl ⟨Nat.le_of_ble_eq_true rfl, Nat.le_of_ble_eq_true rfl⟩ hI hK 10 hL0 rfl hl.1 rfl rfl (Nat.le_of_ble_eq_true rfl) dL_asks_257 ⟨Nat.le_of_ble_eq_true rfl, Nat.le_of_ble_eq_true rfl⟩) hI (fun M H locs hp hI => ?_)
                    obtain ⟨hn2, hF⟩ := hp
                    generalize heg9 : s_X10_tellTree f q z5 x4h63 = g9 at hn2 hR ⊢
                    have hn := hn2
                    have hL5 := hn
                    have hL0 := hL0.fr hF (fun q h1 h2 hq => by omega)
                    have hL1 := hL1.fr hF (fun q h1 h2 hq => by omega)
                    have hL2 := hL2.fr hF (fun q h1 h2 hq => by omega)
                    have hL3 := hL3.fr hF (fun q h1 h2 hq => by omega)
                    have hL4 := hL4.fr hF (fun q h1 h2 hq => by omega)
                    have hS := hS.tr hF (fun q hq => by omega)
                    refine lv_istore (lv' := [(5, .int g9.1), (1, .long ((31 * ((31 * ((31 * ((31 * ((31 * ((31 * ((31 * ((31 * ((31 * ((31 * ((31 * x1h72) + ((s_X10_placeOf f q x4h63).toInt64))) + ((s_X10_ropesAbove f q x4h63).toInt64))) + g8.1.toInt64)) + ((s_X10_sum f q x4h63).toInt64))) + ((s_X10_sumAgain f q x4h63).toInt64))) + ((s_X10_ropeOf f q x4h63 1).toInt64))) + ((s_X10_root f q x4h63).toInt64))) + ((s_X10_rootAgain f q x4h63).toInt64))) + ((s_X10_joint f q x4h63 0).toInt64))) + ((s_X10_jointAgain f q 0 x4h63).toInt64))) + ((s_X10_ranked f q x4h63).toInt64))), (0, .ref a), (3, .int x3h63), (4, .int x4h63)]) hx hb dL_asks_260 hl (by decide) rfl (fun ls hl => ?_)
                    refine lv_iconst (v := 0) hx hb dL_asks_262 (by decide) ?_
                    refine lv_istore (lv' := [(6, .int 0), (5, .int g9.1), (1, .long ((31 * ((31 * ((31 * ((31 * ((31 * ((31 * ((31 * ((31 * ((31 * ((31 * ((31 * x1h72) + ((s_X10_placeOf f q x4h63).toInt64))) + ((s_X10_ropesAbove f q x4h63).toInt64))) + g8.1.toInt64)) + ((s_X10_sum f q x4h63).toInt64))) + ((s_X10_sumAgain f q x4h63).toInt64))) + ((s_X10_ropeOf f q x4h63 1).toInt64))) + ((s_X10_root f q x4h63).toInt64))) + ((s_X10_rootAgain f q x4h63).toInt64))) + ((s_X10_joint f q x4h63 0).toInt64))) + ((s_X10_jointAgain f q 0 x4h63).toInt64))) + ((s_X10_ranked f q x4h63).toInt64))), (0, .ref a), (3, .int x3h63), (4, .int x4h63)]) hx hb dL_asks_263 hl (by decide) rfl (fun ls hl => ?_)
                    have loop265 : ∀ (n265 : Nat) (x1h265 : Int64) (x5h265 : Int32) (x6h265 : Int32) (z2 : qQV) (z5 : qNV), qmu x5h265 x6h265 < n265 → s_L_asks_L265 f q h i x1h63 x3h63 x4h63 (s_L_asks_L63 f q h i n63) n265 x1h265 x5h265 x6h265 z2 z5 = R → ∀ (M : qM) (H : Heap) (locs : List Loc) (ls : Array Slot), qLX cs M a f → qLQ cs M (a + 1) q → qLQ cs M (a + 27) z2 → qLH cs M (a + 40) h → qLI cs M (a + 159) i → qLN cs M (a + 164) z5 → qFr (fun q => qIn (a + 27) 13 q ∨ qIn (a + 164) 2 q) M0 M → qI D M0 s.heap M N H locs → lv_has ls 7 [(0, .ref a), (1, .long x1h265), (3, .int x3h63), (4, .int x4h63), (5, .int x5h265), (6, .int x6h265)] →
                        W p l e ({ frames := 23, cells := 0, slots := 0, locals := 844 } : Room) s m [Value.ref a].toArray below meth c H locs 0 0 (MQ below (qQ D M0 N (qMod N (some (.long R.1)) (fun M' => qLQ cs M' (a + 27) R.2.1 ∧ qLN cs M' (a + 164) R.2.2 ∧ qFr (fun q => qIn (a + 27) 13 q ∨ qIn (a + 164) 2 q) M0 M'))) [Value.ref a].toArray s 0 0 (qA M0 N)) (F0 m 265 ls []) := by
                      intro n265
                      induction n265 with
                      | zero => intro x1h265 x5h265 x6h265 z2 z5 hm; exact absurd hm (Nat.not_lt_zero _)
                      | succ n265 ih265 =>
                        intro x1h265 x5h265 x6h265 z2 z5 hm265 hR M H locs ls hL0 hL1 hL2 hL3 hL4 hL5 hS hI hl
                        rw [s_L_asks_L265] at hR
                        refine lv_iload hx hb dL_asks_265 (lv_at hl 5 rfl) ?_
                        refine lv_iload hx hb dL_asks_267 (lv_at hl 4 rfl) ?_
                        refine lv_icmp_ge (tgt := 292) hx hb dL_asks_269 (by decide) (fun c10 => ?_) (fun c10 => ?_)
                        · rw [if_pos c10] at hR
                          refine lv_iinc (v := x4h63 + 1) (lv' := [(4, .int (x4h63 + 1)), (0, .ref a), (1, .long x1h265), (3, .int x3h63), (5, .int x5h265), (6, .int x6h265)]) hx hb dL_asks_292 hl (k := 3) rfl rfl (by decide) rfl (fun ls hl => ?_)
                          refine lv_goto (tgt := 63) hx hb dL_asks_295 (by decide) ?_
                          exact ih63 x1h265 x3h63 (x4h63 + 1) z2 z5 (q_mu c2 hm63) hR _ _ _ _ hL0 hL1 hL2 hL3 hL4 hL5 hS hI (lv_sub hl [1, 2, 3, 0] rfl)
                        · rw [if_neg c10] at hR
                          refine lv_ldc2 hx hb hown (hg _ wk_L_56) dL_asks_272 ?_
                          refine lv_lload_n hx hb dL_asks_275 rfl (lv_at hl 1 rfl) ?_
                          refine lv_lmul hx hb dL_asks_276 ?_
                          refine lv_aload_n hx hb dL_asks_277 rfl (lv_at hl 0 rfl) ?_
                          refine lv_iload hx hb dL_asks_278 (lv_at hl 5 rfl) ?_
                          refine q_goR (q_runV (As := [.int x6h265]) (rest := [.long (31 * x1h265)]) hx hb hml hown hg (c_X10_written l D cs hL0 hL5 x6h265) v_X10_written wl_L_30 rfl rfl ⟨Nat.le_of_ble_eq_true rfl, Nat.le_of_ble_eq_true rfl⟩ hI hK 10 hL0 rfl hl.1 rfl rfl (Nat.le_of_ble_eq_true rfl) dL_asks_280 ⟨Nat.le_of_ble_eq_true rfl, Nat.le_of_ble_eq_true rfl⟩) hI (fun H locs hI => ?_)
                          refine lv_i2l hx hb dL_asks_283 rfl ?_
                          refine lv_ladd hx hb dL_asks_284 ?_
                          refine lv_lstore_n (lv' := [(1, .long ((31 * x1h265) + ((s_X10_written f z5 x6h265).toInt64))), (0, .ref a), (3, .int x3h63), (4, .int x4h63), (5, .int x5h265), (6, .int x6h265)]) hx hb dL_asks_285 rfl hl (by decide) rfl (fun ls hl => ?_)
                          refine lv_iinc (v := x6h265 + 1) (lv' := [(6, .int (x6h265 + 1)), (1, .long ((31 * x1h265) + ((s_X10_written f z5 x6h265).toInt64))), (0, .ref a), (3, .int x3h63), (4, .int x4h63), (5, .int x5h265)]) hx hb dL_asks_286 hl (k := 5) rfl rfl (by decide) rfl (fun ls hl => ?_)
                          refine lv_goto (tgt := 265) hx hb dL_asks_289 (by decide) ?_
                          exact ih265 ((31 * x1h265) + ((s_X10_written f z5 x6h265).toInt64)) x5h265 (x6h265 + 1) z2 z5 (q_mu c10 hm265) hR _ _ _ _ hL0 hL1 hL2 hL3 hL4 hL5 hS hI (lv_sub hl [2, 1, 3, 4, 5, 0] rfl)
                    exact loop265 _ ((31 * ((31 * ((31 * ((31 * ((31 * ((31 * ((31 * ((31 * ((31 * ((31 * ((31 * x1h72) + ((s_X10_placeOf f q x4h63).toInt64))) + ((s_X10_ropesAbove f q x4h63).toInt64))) + g8.1.toInt64)) + ((s_X10_sum f q x4h63).toInt64))) + ((s_X10_sumAgain f q x4h63).toInt64))) + ((s_X10_ropeOf f q x4h63 1).toInt64))) + ((s_X10_root f q x4h63).toInt64))) + ((s_X10_rootAgain f q x4h63).toInt64))) + ((s_X10_joint f q x4h63 0).toInt64))) + ((s_X10_jointAgain f q 0 x4h63).toInt64))) + ((s_X10_ranked f q x4h63).toInt64)) g9.1 0 g8.2 g9.2 (q_fuel _) hR _ _ _ _ hL0 hL1 hL2 hL3 hL4 hL5 hS hI (lv_sub hl [3, 2, 4, 5, 1, 0] rfl)
                  · rw [if_neg c7] at hR
                    refine lv_ldc2 hx hb hown (hg _ wk_L_56) dL_asks_79 ?_
                    refine lv_ldc2 hx hb hown (hg _ wk_L_56) dL_asks_82 ?_
                    refine lv_lload_n hx hb dL_asks_85 rfl (lv_at hl 1 rfl) ?_
                    refine lv_lmul hx hb dL_asks_86 ?_
                    refine lv_aload_n hx hb dL_asks_87 rfl (lv_at hl 0 rfl) ?_
                    refine lv_iload hx hb dL_asks_88 (lv_at hl 3 rfl) ?_
                    refine lv_iload hx hb dL_asks_90 (lv_at hl 4 rfl) ?_
                    refine q_goR (q_runV (As := [.int x4h63, .int x5h72]) (rest := [.long (31 * x1h72), .long 31]) hx hb hml hown hg (c_X10_blockOf l D cs hL0 hL1 x4h63 x5h72) v_X10_blockOf wl_L_84 rfl rfl ⟨Nat.le_of_ble_eq_true rfl, Nat.le_of_ble_eq_true rfl⟩ hI hK 10 hL0 rfl hl.1 rfl rfl (Nat.le_of_ble_eq_true rfl) dL_asks_92 ⟨Nat.le_of_ble_eq_true rfl, Nat.le_of_ble_eq_true rfl⟩) hI (fun H locs hI => ?_)
                    refine lv_i2l hx hb dL_asks_95 rfl ?_
                    refine lv_ladd hx hb dL_asks_96 ?_
                    refine lv_lmul hx hb dL_asks_97 ?_
                    refine lv_aload_n hx hb dL_asks_98 rfl (lv_at hl 0 rfl) ?_
                    refine lv_iload hx hb dL_asks_99 (lv_at hl 3 rfl) ?_
                    refine lv_iload hx hb dL_asks_101 (lv_at hl 4 rfl) ?_
                    refine q_goR (q_runV (As := [.int x4h63, .int x5h72]) (rest := [.long (31 * ((31 * x1h72) + ((s_X10_blockOf f q x4h63 x5h72).toInt64)))]) hx hb hml hown hg (c_X10_treeOf l D cs hL0 hL1 x4h63 x5h72) v_X10_treeOf wl_L_87 rfl rfl ⟨Nat.le_of_ble_eq_true rfl, Nat.le_of_ble_eq_true rfl⟩ hI hK 10 hL0 rfl hl.1 rfl rfl (Nat.le_of_ble_eq_true rfl) dL_asks_103 ⟨Nat.le_of_ble_eq_true rfl, Nat.le_of_ble_eq_true rfl⟩) hI (fun H locs hI => ?_)
                    refine lv_i2l hx hb dL_asks_106 rfl ?_
                    refine lv_ladd hx hb dL_asks_107 ?_
                    refine lv_lstore_n (lv' := [(1, .long ((31 * ((31 * x1h72) + ((s_X10_blockOf f q x4h63 x5h72).toInt64))) + ((s_X10_treeOf f q x4h63 x5h72).toInt64))), (0, .ref a), (3, .int x3h63), (4, .int x4h63), (5, .int x5h72)]) hx hb dL_asks_108 rfl hl (by decide) rfl (fun ls hl => ?_)
                    refine lv_iinc (v := x5h72 + 1) (lv' := [(5, .int (x5h72 + 1)), (1, .long ((31 * ((31 * x1h72) + ((s_X10_blockOf f q x4h63 x5h72).toInt64))) + ((s_X10_treeOf f q x4h63 x5h72).toInt64))), (0, .ref a), (3, .int x3h63), (4, .int x4h63)]) hx hb dL_asks_109 hl (k := 4) rfl rfl (by decide) rfl (fun ls hl => ?_)
                    refine lv_goto (tgt := 72) hx hb dL_asks_112 (by decide) ?_
                    exact ih72 ((31 * ((31 * x1h72) + ((s_X10_blockOf f q x4h63 x5h72).toInt64))) + ((s_X10_treeOf f q x4h63 x5h72).toInt64)) (x5h72 + 1) z2 z5 (q_mu c7 hm72) hR _ _ _ _ hL0 hL1 hL2 hL3 hL4 hL5 hS hI (lv_sub hl [2, 1, 3, 4, 0] rfl)
              exact loop72 _ x1h63 0 z2 z5 (q_fuel _) hR _ _ _ _ hL0 hL1 hL2 hL3 hL4 hL5 hS hI (lv_sub hl [1, 2, 3, 4, 0] rfl)
        exact loop63 _ x1h29 (s_X10_account f q h i 0) 0 z2 z5 (q_fuel _) hR _ _ _ _ hL0 hL1 hL2 hL3 hL4 hL5 hS hI (lv_sub hl [2, 3, 1, 0] rfl)
      · rw [if_neg c1] at hR
        refine lv_ldc2 hx hb hown (hg _ wk_L_56) dL_asks_35 ?_
        refine lv_lload_n hx hb dL_asks_38 rfl (lv_at hl 1 rfl) ?_
        refine lv_lmul hx hb dL_asks_39 ?_
        refine lv_aload_n hx hb dL_asks_40 rfl (lv_at hl 0 rfl) ?_
        refine lv_iload_n hx hb dL_asks_41 rfl (lv_at hl 2 rfl) ?_
        refine q_goR (q_runV (As := [.int x3h29]) (rest := [.long (31 * x1h29)]) hx hb hml hown hg (c_X10_account l D cs hL0 hL1 hL3 hL4 x3h29) v_X10_account wl_L_81 rfl rfl ⟨Nat.le_of_ble_eq_true rfl, Nat.le_of_ble_eq_true rfl⟩ hI hK 10 hL0 rfl hl.1 rfl rfl (Nat.le_of_ble_eq_true rfl) dL_asks_42 ⟨Nat.le_of_ble_eq_true rfl, Nat.le_of_ble_eq_true rfl⟩) hI (fun H locs hI => ?_)
        refine lv_i2l hx hb dL_asks_45 rfl ?_
        refine lv_ladd hx hb dL_asks_46 ?_
        refine lv_lstore_n (lv' := [(1, .long ((31 * x1h29) + ((s_X10_account f q h i x3h29).toInt64))), (0, .ref a), (3, .int x3h29)]) hx hb dL_asks_47 rfl hl (by decide) rfl (fun ls hl => ?_)
        refine lv_iinc (v := x3h29 + 1) (lv' := [(3, .int (x3h29 + 1)), (1, .long ((31 * x1h29) + ((s_X10_account f q h i x3h29).toInt64))), (0, .ref a)]) hx hb dL_asks_48 hl (k := 2) rfl rfl (by decide) rfl (fun ls hl => ?_)
        refine lv_goto (tgt := 29) hx hb dL_asks_51 (by decide) ?_
        exact ih29 ((31 * x1h29) + ((s_X10_account f q h i x3h29).toInt64)) (x3h29 + 1) z2 z5 (q_mu c1 hm29) hR _ _ _ _ hL0 hL1 hL2 hL3 hL4 hL5 hS hI (lv_sub hl [2, 1, 0] rfl)
  exact loop29 _ (((31 * (s_Jxe99ae_doubleToLongBits_ccdee  (s_X10_rootShare f q))) + ((s_Jxf58ca_floatToIntBits_5c35a  (s_X10_meanDepth f q)).toInt64)) + ((s_X10_isWell f q).toInt64)) 0 qt n (q_fuel _) hR _ _ _ _ hL0 hL1 hL2 hL3 hL4 hL5 hS hI (lv_sub hl [2, 1, 0] rfl)
