/-! THE LAW's constants; a made text as a fact; some -/
def jCi (k : Nat) : Nat := [150, 158, 164, 166, 180, 185, 191].getD k 0
def jCx (k : Nat) : String := ["walk ", ";cut ", "block ", ";pull", "q", "walk 0;up 1;walk 16", "walk 3;weigh 1 "].getD k ""
def jCt (k : Nat) : List Int32 := [[119, 97, 108, 107, 32], [59, 99, 117, 116, 32], [98, 108, 111, 99, 107, 32], [59, 112, 117, 108, 108], [113], [119, 97, 108, 107, 32, 48, 59, 117, 112, 32, 49, 59, 119, 97, 108, 107, 32, 49, 54], [119, 97, 108, 107, 32, 51, 59, 119, 101, 105, 103, 104, 32, 49, 32]].getD k []
def jC (N00 : Nat) (cs : qC) (U : State) (H : Heap) : Prop := ∀ k : Nat, k < 7 → vk_R RL (jCi k) (jCx k) (cs (72 + k)) U ∧ zStr (qGe0 N00) (cs (72 + k)) (cs (80 + k)) (jCt k) U H
theorem jC.kept {N00 : Nat} {cs : qC} {U : State} {H H1 : Heap} (h : jC N00 cs U H) (hq : ∀ a : Nat, a < H.size → ¬ qGe0 N00 a → H1[a]? = H[a]?) : jC N00 cs U H1 := fun k hk => ⟨(h k hk).1, (h k hk).2.kept hq⟩
theorem jC.sw {N00 : Nat} {cs : qC} : qSw (jC N00 cs) := ⟨fun u U H hW h k hk => ⟨vk_R.warm hW (h k hk).1, (h k hk).2.moved hW.alike⟩, fun u U H hv h k hk => ⟨vk_R.same hv.symm (h k hk).1, (h k hk).2.moved (by rw [hv]; exact Vm.Alike.refl U.vm)⟩⟩
/-- all that lies outside the model -/
abbrev jX (N00 : Nat) (cs : qC) : State → Heap → Prop := fun U H => zP N00 cs U H ∧ jW N00 cs U H ∧ jC N00 cs U H
theorem jX.sw {N00 : Nat} {cs : qC} : qSw (jX N00 cs) := (qSt.sw zP.st).and (jW.sw.and jC.sw)
theorem qI.jx {D : va_G} {M0 M : qM} {N0 N N00 : Nat} {cs : qC} {s : State} {H : Heap} {locs : List Loc} (hI : qI D M0 s.heap M N H locs) (hN : s.heap.size = N0) (hd : qDom N00 M0 N0) (hP : jX N00 cs s s.heap) : jX N00 cs s H := ⟨hP.1.kept (hI.zS hN hd).2.1, hP.2.1.kept (hI.zS hN hd).2.1, hP.2.2.kept (hI.zS hN hd).2.1⟩
theorem fit_of {L : List Int32} (h : ∀ x ∈ L, fits .byte (.int x) = true) : sb_Fit (fun j => L.getD j 0) := fun j => by
  show fits .byte (.int (L.getD j 0)) = true
  rw [List.getD_eq_getElem?_getD]
  cases hj : L[j]? with
  | none => exact nb_fit 0 (by decide)
  | some x => exact h x (List.mem_of_getElem? hj)
theorem jCt_fit (k : Nat) (hk : k < 7) : sb_Fit (fun j => (jCt k).getD j 0) := by
  refine fit_of ?_
  match k, hk with
  | 0, _ => decide +kernel
  | 1, _ => decide +kernel
  | 2, _ => decide +kernel
  | 3, _ => decide +kernel
  | 4, _ => decide +kernel
  | 5, _ => decide +kernel
  | 6, _ => decide +kernel
/-- the model without what lies at K and behind -/
def qCut (K : Nat) (M : qM) : qM := fun q => if q < K then M q else none
theorem qCut_lt {K : Nat} {M : qM} {q : Nat} (h : q < K) : qCut K M q = M q := if_pos h
theorem qCut_some {K : Nat} {M : qM} {q : Nat} {e : va_E} (h : qCut K M q = some e) : q < K ∧ M q = some e := by
  unfold qCut at h
  split at h
  · exact ⟨by assumption, h⟩
  · cases h
theorem qI.cut {D : va_G} {M0 M : qM} {H0 H : Heap} {N : Nat} {locs : List Loc} (h : qI D M0 H0 M N H locs) (K : Nat) : qI D M0 H0 (qCut K M) N H locs :=
  ⟨fun a e he => h.1 a e (qCut_some he).2, h.2.1, fun a e he => h.2.2.1 a e (qCut_some he).2, h.2.2.2⟩
/-- a made String, told as a fact -/
theorem qI.str {D : va_G} {cs : qC} {s : State} {args : Array Value} {M0 M : qM} {N : Nat} {H : Heap} {locs : List Loc} (hg : ∀ w ∈ qG, w.before args s = true) (hK : qK D cs s) (hI : qI D M0 s.heap M N H locs) {a t : Nat} {L : List Int32} {f : Nat → Int32} (hMa : M a = some (.inr (0, [.ref t, .int 0, .int 0, .int 0]))) (hMt : M t = some (qbyt cs L.length f)) (hf : ∀ j, j < L.length → f j = L.getD j 0) {A : Nat → Prop} (hA : ¬ A a) (hB : ¬ A t) : zStr A a t L s H := by
  have hof : ∀ (k : Nat) (v : Value), k < 4 → ([Value.ref t, .int 0, .int 0, .int 0])[k]? = some v → va_OF (TJ0 k).1 (TJ0 k).2.1 (TJ0 k).2.2.1 v a A s H := by
    intro k v hk hv
    obtain ⟨r, h1, cell, q1, q2, q3, q4⟩ := hI.1 a _ hMa
    have hr : r = (RJ0, TJ0, 4) := Option.some.inj (h1.symm.trans rfl)
    subst hr
    obtain ⟨hS, hfc, kC, hkC, hkind⟩ := hK.1.1 0 _ rfl
    obtain ⟨cf, kf, fi, fd, hi, hsl⟩ := hS k hk
    exact ⟨cf, kf, fi, fd, cell, hi, (u_facts hfc hkC (u_lays hg in_J0 hk) hi).1, q1, (by rw [q3]; exact fun h => by cases h), (by rw [hsl, q4 k hk]; simp [vp_V, hv]), hA⟩
  refine ⟨?_, hof 1 _ (by decide) rfl, hof 0 _ (by decide) rfl, ?_⟩
  · obtain ⟨cell, h1, h2, h3⟩ := hI.rc hK 0 hMa rfl
    exact ⟨cell, h1, h2, h3, hA⟩
  · obtain ⟨cell, h1, h2, h3, h4, h5, h6, -⟩ := hI.tB hK hMt
    exact ⟨cell, h1, h2, h3, h4, h5, fun j hj => by rw [h6 j hj]; show some (Value.int (f j)) = some (Value.int (L.getD j 0)); rw [hf j hj], hB⟩
theorem qI.rcB {D : va_G} {cs : qC} {s : State} {M0 M : qM} {N K w c b : Nat} {L : List Int32} {H : Heap} {locs : List Loc} (hK : qK D cs s) (hI : qI D M0 s.heap M N H locs) (hB : qB cs K w c M N b L) : ∃ cell : Cell, H[b]? = some cell ∧ cell.vm.isStatics = false ∧ s.vm.findClass "java/lang/StringBuilder" = some cell.cls := by
  obtain ⟨v, n, f0, z⟩ := hB
  exact hI.rc hK 1 z.2.2.2.2.2.2.1 rfl
theorem q_rem (x : Int32) (n : Nat) (h0 : 0 < n) (hn : n ≤ 1000) : (x - x / nI n * nI n).toInt = x.toInt.tmod n := by
  have h1 := Int32.le_toInt x
  have h2 := Int32.toInt_lt x
  have h3 := Int.mul_tdiv_add_tmod x.toInt n
  have h4 := Int.tmod_lt_of_pos x.toInt (b := n) (by omega)
  have h5 := Int.lt_tmod_of_pos x.toInt (b := n) (by omega)
  have h6 : 0 ≤ x.toInt → 0 ≤ x.toInt.tmod n := fun h => Int.tmod_nonneg n h
  have h7 : x.toInt ≤ 0 → x.toInt.tmod n ≤ 0 := fun h => by
    have h8 := Int.tmod_nonneg n (a := -x.toInt) (by omega)
    rw [Int.neg_tmod] at h8
    omega
  have en : (nI n).toInt = (n : Int) := nI_toInt (by omega)
  have h9 : x.toInt.tdiv n * n = x.toInt - x.toInt.tmod n := by
    rw [Int.mul_comm]
    omega
  have hb : -2147483648 ≤ x.toInt.tdiv n * n ∧ x.toInt.tdiv n * n < 2147483648 := by omega
  have hq : -2147483648 ≤ x.toInt.tdiv n ∧ x.toInt.tdiv n < 2147483648 := by
    generalize x.toInt.tdiv n = d at hb
    have hn1 : (1 : Int) ≤ n := by omega
    by_cases hd : 0 ≤ d
    · have := Int.mul_le_mul_of_nonneg_left hn1 hd
      omega
    · have := Int.mul_le_mul_of_nonneg_left hn1 (show (0 : Int) ≤ -d by omega)
      rw [Int.neg_mul, Int.neg_mul] at this
      omega
  have ed : (x / nI n).toInt = x.toInt.tdiv n := by
    rw [Int32.toInt_div, en]
    exact Int.bmod_eq_of_le (by omega) (by omega)
  have em : (x / nI n * nI n).toInt = x.toInt.tdiv n * n := by
    rw [Int32.toInt_mul, ed, en]
    exact Int.bmod_eq_of_le (by omega) (by omega)
  rw [Int32.toInt_sub, em]
  rw [Int.bmod_eq_of_le (by omega) (by omega)]
  omega
theorem some_nI (x : Int32) (n : Nat) (h0 : 0 < n) (hn : n ≤ 1000) : ∃ j, j < n ∧ s_some x (nI n) = nI j := by
  have hr := q_rem x n h0 hn
  have h4 := Int.tmod_lt_of_pos x.toInt (b := n) (by omega)
  have h5 := Int.lt_tmod_of_pos x.toInt (b := n) (by omega)
  have en : (nI n).toInt = (n : Int) := nI_toInt (by omega)
  rw [s_some]
  generalize x - x / nI n * nI n = r at hr ⊢
  split
  · rename_i c
    rw [i_le, i0] at c
    exact ⟨r.toInt.toNat, by omega, i_eq (by rw [nI_toInt (by omega)]; omega)⟩
  · rename_i c
    rw [i_le, i0] at c
    refine ⟨(r.toInt + n).toNat, by omega, i_eq ?_⟩
    rw [i_add (by omega) (by omega), en, nI_toInt (by omega)]
    omega
theorem acc0 (f : Int32 × Int32) (q : qQV) (h : qHV) (i : qIV) : s_X10_account f q h i 0 = q.1.2.2 := by
  unfold s_X10_account
  rw [if_pos rfl]
theorem dec_neg {x : Int32} (h : x < 0) : (0 : Int32) = qbi (decide (0 ≤ x)) := by
  rw [decide_eq_false (by rw [i_le]; rw [i_lt] at h; omega)]
  rfl
theorem dec_pos {x : Int32} (h : ¬ x < 0) : (1 : Int32) = qbi (decide (0 ≤ x)) := by
  rw [decide_eq_true (q_nlt h)]
  rfl
/-- what changes leaves -/
abbrev chF (a N : Nat) : Nat → Prop := fun z => qIn a 1 z ∨ qIn (a + 1) 13 z ∨ qIn (a + 40) 119 z ∨ qIn (a + 159) 5 z ∨ qIn (a + 166) 1 z ∨ N ≤ z
def ChP (cs : qC) (N a : Nat) (q : qQV) (Q : List qQV) (c : Nat) (f : Int32 × Int32) (M0 : qM) : Option Value → qM → Nat → Prop := fun r M' N' => ∃ (x : Int32) (f' : Int32 × Int32) (q' : qQV) (h' : qHV) (i' : qIV) (rs' : qRV), r = some (.int (qbi (decide (0 ≤ x)))) ∧ Chg q Q c x q' h' ∧ f'.2 = f.2 ∧ qLX cs M' a f' ∧ qLQ cs M' (a + 1) q' ∧ qLH cs M' (a + 40) h' ∧ qLI cs M' (a + 159) i' ∧ qLR cs M' (a + 166) rs' ∧ qFr (chF a N) M0 M' ∧ N ≤ N'
