/-! CALLS over the model heap -/
abbrev qws (y : MethodName) (bytes : ByteArray) (maxL : Nat) (ret : Option FieldType) : List Cond := Cond.code y bytes maxL ret :: qG
theorem qws_good {y : MethodName} {bytes : ByteArray} {maxL : Nat} {ret : Option FieldType} (h : Cond.code y bytes maxL ret ∈ qG) : GoodIn qG (qws y bytes maxL ret) := fun w hw => by
  rcases List.mem_cons.mp hw with rfl | hw
  · exact ⟨h, good_of_word (qG_good h)⟩
  · exact ⟨hw, good_of_word (qG_good hw)⟩
def qYn (y : MethodName) (n : Nat) : Prop := y.cls ≠ "java/lang/invoke/MethodHandle" ∧ y.cls ≠ "java/lang/invoke/VarHandle" ∧ (parseMethodDescriptor y.desc).map (fun d => d.parameters.length) = some n
/-- what a call of an instance method wants of the words; of a static one; of a constructor -/
def qVm (y : MethodName) (bytes : ByteArray) (maxL : Nat) (ret : Option FieldType) (n : Nat) : Prop := Cond.code y bytes maxL ret ∈ qG ∧ Cond.instanceMethod y ∈ qG ∧ Cond.selects y.cls y y ∈ qG ∧ Cond.initialized y.cls ∈ qG ∧ qYn y n
def qSm (y : MethodName) (bytes : ByteArray) (maxL : Nat) (ret : Option FieldType) (n : Nat) : Prop := Cond.code y bytes maxL ret ∈ qG ∧ Cond.static y ∈ qG ∧ Cond.initialized y.cls ∈ qG ∧ qYn y n
def qIm (y : MethodName) (bytes : ByteArray) (maxL : Nat) (n : Nat) : Prop := Cond.code y bytes maxL none ∈ qG ∧ Cond.instanceMethod y ∈ qG ∧ Cond.initialized y.cls ∈ qG ∧ y.name = "<init>" ∧ qYn y n
theorem qG_wsV {y : MethodName} {bytes : ByteArray} {maxL n idx : Nat} {ret : Option FieldType} {own : String} (v : qVm y bytes maxL ret n) (hl : Cond.methodLink own idx y ∈ qG) : GoodIn qG (wsV own idx y.cls y (qws y bytes maxL ret)) := fun w hw => by
  obtain ⟨h1, h2, h3, h4, -⟩ := v
  rcases List.mem_append.mp hw with hw | hw
  · have : w ∈ qG := by
      rcases List.mem_cons.mp hw with rfl | hw
      · exact hl
      rcases List.mem_cons.mp hw with rfl | hw
      · exact h2
      rcases List.mem_cons.mp hw with rfl | hw
      · exact h3
      rcases List.mem_cons.mp hw with rfl | hw
      · exact h4
      cases hw
    exact ⟨this, good_of_word (qG_good this)⟩
  · exact qws_good h1 w hw
theorem qG_wsS {y : MethodName} {bytes : ByteArray} {maxL n idx : Nat} {ret : Option FieldType} {own : String} (v : qSm y bytes maxL ret n) (hl : Cond.methodLink own idx y ∈ qG) : GoodIn qG (va_wsS own idx y (qws y bytes maxL ret)) := fun w hw => by
  obtain ⟨h1, h2, h3, -⟩ := v
  rcases List.mem_append.mp hw with hw | hw
  · have : w ∈ qG := by
      rcases List.mem_cons.mp hw with rfl | hw
      · exact hl
      rcases List.mem_cons.mp hw with rfl | hw
      · exact h2
      rcases List.mem_cons.mp hw with rfl | hw
      · exact h3
      cases hw
    exact ⟨this, good_of_word (qG_good this)⟩
  · exact qws_good h1 w hw
section QR
variable {p : Program} {l : Launch} {e : Env} {R : Room} {s : State} {m : MethodId} {args : Array Value} {below : List Frame} {meth : Method} {c : Code} {H : Heap} {locs : List Loc} {cells slots : Nat} {Q : State → Prop}
variable {cc : ByteArray} {pc : Nat} {ls : Array Slot} {rest : List Value} {D : va_G} {cs : qC} {M0 M : qM} {N a : Nat}
variable {y : MethodName} {bytes : ByteArray} {maxL nL mc ms n index : Nat} {ret : Option FieldType} {rm : Room} {own host : String} {b : Nat} {As st0 : List Value} {post : Option Value → qM → Nat → Prop}
theorem q_pre (hI : qI D M0 s.heap M N H locs) (hK : qK D cs s) : PreS s H (qPc D cs M N As) As :=
  ⟨qPc_blind, fun U hU hW => ⟨rfl, by rw [hU]; exact hI.1, hK.warm hW, by rw [hU]; exact hI.2.1⟩⟩
theorem q_runV (hx : p.tables.exec = Jvm.exec) (hb : c.code = cc) (hml : c.maxLocals = nL) (hown : s.vm.findClass own = some m.cls) (hg : ∀ w ∈ qG, w.before args s = true)
    (hM : qMet l D cs y (qws y bytes maxL ret) rm M N (.ref b :: As) post mc ms) (v : qVm y bytes maxL ret n) (hl : Cond.methodLink own index y ∈ qG) (hrc : rm.cells = mc) (hrs : rm.slots = ms) (hR : rm.frames + 1 ≤ R.frames ∧ 8 + (maxL + 11) + rm.locals ≤ R.locals)
    (hI : qI D M0 s.heap M N H locs) (hK : qK D cs s) (ci : Nat) {fs : List Value} {T : u_T} {NN : Nat} (hMb : M b = some (.inr (ci, fs))) (hc : vwCl[ci]? = some (y.cls, T, NN))
    (hls : ls.size = nL) (hn : As.length = n) (hst : st0 = As.reverse ++ .ref b :: rest) (hcat : (rest.map fun v => v.category).sum ≤ 8) (hdg : decode cc pc = .ok (.invokevirtual index, 3)) (hf : cells + mc ≤ R.cells ∧ slots + ms ≤ R.slots) :
    va_Run p l e R s m args below meth c H locs cells slots mc ms (F0 m pc ls st0) rest (qQ D M N post (Value.ref b :: As).toArray) (qA M N) := by
  refine va_runV (As := As) (rest := rest) (C := y.cls) ⟨hx, hb, hml, hown, hg⟩ hM (cwV n hg (qG_wsV v hl) rfl hrc hrs ⟨rfl, v.2.2.2.2⟩ hR) ⟨qPc_blind, ?_, (q_pre (As := .ref b :: As) hI hK).2⟩ rfl hn hls hst (lv_room hcat) hdg hf
  obtain ⟨q', h1, cell, g1, g2, g3, -⟩ := hI.1 b _ hMb
  exact ⟨cell, g1, by rw [g3]; rfl, by rw [g2]; exact (hK.1.1 ci _ hc).2.1⟩
theorem q_runS (hx : p.tables.exec = Jvm.exec) (hb : c.code = cc) (hml : c.maxLocals = nL) (hown : s.vm.findClass own = some m.cls) (hg : ∀ w ∈ qG, w.before args s = true)
    (hM : qMet l D cs y (qws y bytes maxL ret) rm M N As post mc ms) (v : qSm y bytes maxL ret n) (hl : Cond.methodLink own index y ∈ qG) (hrc : rm.cells = mc) (hrs : rm.slots = ms) (hR : rm.frames + 1 ≤ R.frames ∧ 8 + (maxL + 11) + rm.locals ≤ R.locals)
    (hI : qI D M0 s.heap M N H locs) (hK : qK D cs s)
    (hls : ls.size = nL) (hn : As.length = n) (hst : st0 = As.reverse ++ rest) (hcat : (rest.map fun v => v.category).sum ≤ 8) (hdg : decode cc pc = .ok (.invokestatic index, 3)) (hf : cells + mc ≤ R.cells ∧ slots + ms ≤ R.slots) :
    va_Run p l e R s m args below meth c H locs cells slots mc ms (F0 m pc ls st0) rest (qQ D M N post As.toArray) (qA M N) :=
  va_runS (As := As) (rest := rest) ⟨hx, hb, hml, hown, hg⟩ hM (va_cwS n hg (qG_wsS v hl) rfl hrc hrs v.2.2.2 hR) (q_pre hI hK) rfl hn hls hst (lv_room hcat) hdg hf
theorem q_runSN (hx : p.tables.exec = Jvm.exec) (hb : c.code = cc) (hml : c.maxLocals = nL) (hown : s.vm.findClass own = some m.cls) (hg : ∀ w ∈ qG, w.before args s = true)
    (hM : qMet l D cs y (qws y bytes maxL ret) rm M N As post mc ms) (v : qSm y bytes maxL ret n) (hl : va_Nw (.methodLinkNest own index y host) s) (hrc : rm.cells = mc) (hrs : rm.slots = ms) (hR : rm.frames + 1 ≤ R.frames ∧ 8 + (maxL + 11) + rm.locals ≤ R.locals)
    (hI : qI D M0 s.heap M N H locs) (hK : qK D cs s)
    (hls : ls.size = nL) (hn : As.length = n) (hst : st0 = As.reverse ++ rest) (hcat : (rest.map fun v => v.category).sum ≤ 8) (hdg : decode cc pc = .ok (.invokestatic index, 3)) (hf : cells + mc ≤ R.cells ∧ slots + ms ≤ R.slots) :
    va_Run p l e R s m args below meth c H locs cells slots mc ms (F0 m pc ls st0) rest (qQ D M N post As.toArray) (qA M N) :=
  va_runSN (As := As) (rest := rest) ⟨hx, hb, hml, hown, hg⟩ hM ⟨va_cnB n hg (qws_good v.1) rfl hrc hrs hl (hg _ v.2.2.1) v.2.2.2 hR, hg _ v.2.1, trivial⟩ (q_pre hI hK) rfl hn hls hst (lv_room hcat) hdg hf
theorem q_runI (hx : p.tables.exec = Jvm.exec) (hb : c.code = cc) (hml : c.maxLocals = nL) (hown : s.vm.findClass own = some m.cls) (hg : ∀ w ∈ qG, w.before args s = true)
    (hM : qMet l D cs y (qws y bytes maxL none) rm M N (.ref b :: As) post mc ms) (v : qIm y bytes maxL n) (hl : Cond.methodLink own index y ∈ qG) (hrc : rm.cells = mc) (hrs : rm.slots = ms) (hR : rm.frames + 1 ≤ R.frames ∧ 8 + (maxL + 11) + rm.locals ≤ R.locals)
    (hI : qI D M0 s.heap M N H locs) (hK : qK D cs s)
    (hls : ls.size = nL) (hn : As.length = n) (hst : st0 = As.reverse ++ .ref b :: rest) (hcat : (rest.map fun v => v.category).sum ≤ 8) (hdg : decode cc pc = .ok (.invokespecial index, 3)) (hf : cells + mc ≤ R.cells ∧ slots + ms ≤ R.slots) :
    va_Run p l e R s m args below meth c H locs cells slots mc ms (F0 m pc ls st0) rest (qQ D M N post (Value.ref b :: As).toArray) (qA M N) :=
  va_runI (As := As) (rest := rest) ⟨hx, hb, hml, hown, hg⟩ hM (cwI n hg (qws_good v.1) rfl hrc hrs (hg _ v.2.2.1) (hg _ hl) (hg _ v.2.1) v.2.2.2.1 v.2.2.2.2 hR) (q_pre (As := .ref b :: As) hI hK) rfl hn hls hst (lv_room hcat) hdg hf
theorem q_runIN (hx : p.tables.exec = Jvm.exec) (hb : c.code = cc) (hml : c.maxLocals = nL) (hown : s.vm.findClass own = some m.cls) (hg : ∀ w ∈ qG, w.before args s = true)
    (hM : qMet l D cs y (qws y bytes maxL none) rm M N (.ref b :: As) post mc ms) (v : qIm y bytes maxL n) (hl : va_Nw (.methodLinkNest own index y host) s) (hrc : rm.cells = mc) (hrs : rm.slots = ms) (hR : rm.frames + 1 ≤ R.frames ∧ 8 + (maxL + 11) + rm.locals ≤ R.locals)
    (hI : qI D M0 s.heap M N H locs) (hK : qK D cs s)
    (hls : ls.size = nL) (hn : As.length = n) (hst : st0 = As.reverse ++ .ref b :: rest) (hcat : (rest.map fun v => v.category).sum ≤ 8) (hdg : decode cc pc = .ok (.invokespecial index, 3)) (hf : cells + mc ≤ R.cells ∧ slots + ms ≤ R.slots) :
    va_Run p l e R s m args below meth c H locs cells slots mc ms (F0 m pc ls st0) rest (qQ D M N post (Value.ref b :: As).toArray) (qA M N) :=
  va_runIN (As := As) (rest := rest) ⟨hx, hb, hml, hown, hg⟩ hM ⟨va_cnB n hg (qws_good v.1) rfl hrc hrs hl (hg _ v.2.2.1) v.2.2.2.2 hR, v.2.2.2.1, hg _ v.2.1⟩ (q_pre (As := .ref b :: As) hI hK) rfl hn hls hst (lv_room hcat) hdg hf
/-- a method's head -/
theorem q_head {av : List Value} (hy : plainName y.cls = true)
    (body : ∀ (p : Program) (e : Env) (s : State) (m : MethodId) (below : List Frame) (meth : Method) (c : Code) (ls : Array Slot), p.tables.exec = Jvm.exec → c.code = bytes → meth.sig.returnType = ret → meth.locks = false → c.maxLocals = maxL → s.vm.findClass y.cls = some m.cls → meth.name = y.name → (∀ w ∈ qG, w.before av.toArray s = true) → qK D cs s → s.heap.size = N → qI D M s.heap M N s.heap [] → lv_has ls maxL (lv_args 0 av) →
      W p l e rm s m av.toArray below meth c s.heap [] 0 0 (MQ below (qQ D M N post) av.toArray s mc ms (qA M N)) (F0 m 0 ls [])) (hlen : (lg_sl av).length ≤ maxL) :
    qMet l D cs y (qws y bytes maxL ret) rm M N av post mc ms := by
  refine Met.ofW (cc := bytes) (maxL := maxL) (ret := ret) hy rfl ?_
  intro p e s m args below meth c s₁ B hml hv
  have hI := qI.start hv
  obtain ⟨rfl, -, hK, hN⟩ := hv
  have hts := atoms_spec (ws := qws y bytes maxL ret) B.pre
  rw [lg_entry_eq]
  exact body p e s m below meth c _ B.exec B.bytes B.returns B.notSynchronized hml (findClass_of_methodNamed B.named) (name_of_methodNamed B.named B.method).1 (fun w h => hts w (List.mem_cons_of_mem _ h)) hK hN hI (lv_entry av hlen)
/-- ends -/
theorem q_iret {av : Array Value} {N0 : Nat} {v : Int32} (hx : p.tables.exec = Jvm.exec) (hb : c.code = cc) (hr : meth.sig.returnType = some .int) (hlocks : meth.locks = false) (hN : s.heap.size = N0) (hI : qI D M0 s.heap M N H locs) (hp : post (some (.int v)) M N) (hdg : decode cc pc = .ok (.ireturn, 1)) :
    W p l e R s m av below meth c H locs cells slots (MQ below (qQ D M0 N0 post) av s cells slots (qA M0 N0)) (F0 m pc ls [.int v]) :=
  W.iret (v := v) hx hb hr (fun t ht hW => hI.end hN hp ht) (by rw [← hN]; exact hI.2.2.2.2.2) hdg hlocks
theorem q_zret {av : Array Value} {N0 : Nat} {v : Int32} {ty : FieldType} (hx : p.tables.exec = Jvm.exec) (hb : c.code = cc) (hr : meth.sig.returnType = some ty) (hn : narrow ty (.int v) = .int v) (hlocks : meth.locks = false) (hN : s.heap.size = N0) (hI : qI D M0 s.heap M N H locs) (hp : post (some (.int v)) M N) (hdg : decode cc pc = .ok (.ireturn, 1)) :
    W p l e R s m av below meth c H locs cells slots (MQ below (qQ D M0 N0 post) av s cells slots (qA M0 N0)) (F0 m pc ls [.int v]) :=
  W.zret (v := v) hx hb hr hn (fun t ht hW => hI.end hN hp ht) (by rw [← hN]; exact hI.2.2.2.2.2) hdg hlocks
theorem q_vret {av : Array Value} {N0 : Nat} {st : List Value} (hx : p.tables.exec = Jvm.exec) (hb : c.code = cc) (hr : meth.sig.returnType = none) (hlocks : meth.locks = false) (hN : s.heap.size = N0) (hI : qI D M0 s.heap M N H locs) (hp : post none M N) (hdg : decode cc pc = .ok (.return_, 1)) :
    W p l e R s m av below meth c H locs cells slots (MQ below (qQ D M0 N0 post) av s cells slots (qA M0 N0)) (F0 m pc ls []) :=
  W.vret hx hb hr (fun t ht hW => hI.end hN hp ht) (by rw [← hN]; exact hI.2.2.2.2.2) hdg hlocks
theorem q_aret {av : Array Value} {N0 : Nat} {v : Value} {rt : String} (hx : p.tables.exec = Jvm.exec) (hb : c.code = cc) (hr : meth.sig.returnType = some (.object rt)) (hv : v = .null ∨ ∃ a, v = .ref a) (hlocks : meth.locks = false) (hN : s.heap.size = N0) (hI : qI D M0 s.heap M N H locs) (hp : post (some v) M N) (hdg : decode cc pc = .ok (.areturn, 1)) :
    W p l e R s m av below meth c H locs cells slots (MQ below (qQ D M0 N0 post) av s cells slots (qA M0 N0)) (F0 m pc ls [v]) :=
  W.aret (v := v) hx hb hr (Or.inl ⟨_, rfl⟩) hv (fun t ht hW => hI.end hN hp ht) (by rw [← hN]; exact hI.2.2.2.2.2) hdg hlocks
theorem q_lret {av : Array Value} {N0 : Nat} {v : Int64} (hx : p.tables.exec = Jvm.exec) (hb : c.code = cc) (hr : meth.sig.returnType = some .long) (hlocks : meth.locks = false) (hN : s.heap.size = N0) (hI : qI D M0 s.heap M N H locs) (hp : post (some (.long v)) M N) (hdg : decode cc pc = .ok (.lreturn, 1)) :
    W p l e R s m av below meth c H locs cells slots (MQ below (qQ D M0 N0 post) av s cells slots (qA M0 N0)) (F0 m pc ls [.long v]) :=
  W.lret (v := v) hx hb hr (fun t ht hW => hI.end hN hp ht) (by rw [← hN]; exact hI.2.2.2.2.2) hdg hlocks
/-- on behind a call -/
theorem q_go {av : Array Value} (hr : va_Run p l e R s m args below meth c H locs cells slots mc ms (F0 m pc ls st0) rest (qQ D M N post av) (qA M N)) (hI : qI D M0 s.heap M N H locs)
    (kk : ∀ (r : Option Value) (M' : qM) (N' : Nat) (H1 : Heap) (locs1 : List Loc), post r M' N' → qI D M0 s.heap M' N' H1 locs1 → W p l e R s m args below meth c H1 locs1 (cells + mc) (slots + ms) Q (F0 m (pc + 3) ls (r.toList ++ rest))) : W p l e R s m args below meth c H locs cells slots Q (F0 m pc ls st0) := by
  intro T hT X
  obtain ⟨v, st₀, t, T', L, h0, X', hL, e1, e2, ⟨r, M', N', hv, hp, hP, hz, hd, hle, hk⟩, st⟩ := hr T hT X
  cases hv
  rw [h0] at hk
  obtain ⟨t2, a1, b1⟩ := kk v M' N' T'.heap (locs ++ L) hp (hI.call (by rw [e1]; exact hP) (by rw [e1]; exact hz) hd hle (fun q q1 q2 => by rw [e1]; exact hk q q1 q2) hL) T' rfl X'
  exact ⟨t2, st t2 a1, b1⟩
/-- .. that only answered -/
theorem q_goR {v : Value} {av : Array Value} (hr : va_Run p l e R s m args below meth c H locs cells slots 0 0 (F0 m pc ls st0) rest (qQ D M N (qRet M N v) av) (qA M N)) (hI : qI D M0 s.heap M N H locs)
    (kk : ∀ (H1 : Heap) (locs1 : List Loc), qI D M0 s.heap M N H1 locs1 → W p l e R s m args below meth c H1 locs1 cells slots Q (F0 m (pc + 3) ls (v :: rest))) : W p l e R s m args below meth c H locs cells slots Q (F0 m pc ls st0) :=
  q_go hr hI (fun r M' N' H1 locs1 hp hI1 => by
    obtain ⟨rfl, rfl, rfl⟩ := hp
    exact kk H1 locs1 hI1)
/-- .. that changed the model and made nothing -/
theorem q_goM {av : Array Value} {post : Option Value → qM → Prop} (hr : va_Run p l e R s m args below meth c H locs cells slots 0 0 (F0 m pc ls st0) rest (qQ D M N (fun r M' N' => post r M' ∧ N' = N) av) (qA M N)) (hI : qI D M0 s.heap M N H locs)
    (kk : ∀ (r : Option Value) (M' : qM) (H1 : Heap) (locs1 : List Loc), post r M' → qI D M0 s.heap M' N H1 locs1 → W p l e R s m args below meth c H1 locs1 cells slots Q (F0 m (pc + 3) ls (r.toList ++ rest))) : W p l e R s m args below meth c H locs cells slots Q (F0 m pc ls st0) :=
  q_go hr hI (fun r M' N' H1 locs1 hp hI1 => by
    obtain ⟨hp, rfl⟩ := hp
    exact kk r M' H1 locs1 hp hI1)
end QR
/-! ROWS of ints as lists -/
def qrow (cI : ClassId) (L : List Int32) : va_E := .inl (cI, L.length, .inl (fun j => L.getD j 0))
theorem q_updL {L : List Int32} {i : Nat} (x : Int32) (h : i < L.length) : upd (fun j => L.getD j 0) i x = fun j => (L.set i x).getD j 0 := by
  funext j
  by_cases hj : j = i
  · subst hj
    simp [upd, List.getD, h]
  · simp only [upd, if_neg hj, List.getD]
    rw [List.getElem?_set_ne (Ne.symm hj)]
theorem qrow_set (cI : ClassId) {L : List Int32} {i : Nat} (x : Int32) (h : i < L.length) : (.inl (cI, L.length, .inl (upd (fun j => L.getD j 0) i x)) : va_E) = qrow cI (L.set i x) := by
  rw [q_updL x h, qrow, List.length_set]
/-- what is at an index, NONE outside -/
def rowAt (L : List Int32) (i : Int32) : Int32 := if 0 ≤ i ∧ i < Int32.ofNat L.length then L.getD i.toNatClampNeg 0 else -1
/-- what is put outside is dropped -/
def rowPut (L : List Int32) (i x : Int32) : List Int32 := if 0 ≤ i ∧ i < Int32.ofNat L.length then L.set i.toNatClampNeg x else L
def rowFill (L : List Int32) (x : Int32) : List Int32 := List.replicate L.length x
theorem rowPut_length (L : List Int32) (i x : Int32) : (rowPut L i x).length = L.length := by
  unfold rowPut; split <;> simp
theorem rowFill_length (L : List Int32) (x : Int32) : (rowFill L x).length = L.length := by simp [rowFill]
theorem q_within {L : List Int32} {i : Int32} (hL : L.length < 2 ^ 31) (h0 : 0 ≤ i) (h1 : i < Int32.ofNat L.length) : i.toNatClampNeg < L.length := by
  have e1 : (Int32.ofNat L.length).toInt = (L.length : Int) := nI_toInt hL
  rw [Int32.lt_iff_toInt_lt, e1] at h1
  rw [Int32.le_iff_toInt_le, Int32.toInt_zero] at h0
  have : i.toNatClampNeg = i.toInt.toNat := rfl
  omega
theorem q_vpin {L : List Int32} {i : Int32} (hL : L.length < 2 ^ 31) (h0 : 0 ≤ i) (h1 : i < Int32.ofNat L.length) : vp_in i L.length := by
  intro h
  rcases h with h | h
  · rw [Int32.lt_iff_toInt_lt, Int32.toInt_zero] at h
    rw [Int32.le_iff_toInt_le, Int32.toInt_zero] at h0
    omega
  · exact absurd (q_within hL h0 h1) (Nat.not_lt.mpr h)
theorem q_nlt {x : Int32} (h : ¬ x < 0) : 0 ≤ x := by
  rw [Int32.lt_iff_toInt_lt, Int32.toInt_zero] at h
  rw [Int32.le_iff_toInt_le, Int32.toInt_zero]
  omega
theorem q_nle {x y : Int32} (h : ¬ y ≤ x) : x < y := by
  rw [Int32.le_iff_toInt_le] at h
  rw [Int32.lt_iff_toInt_lt]
  omega
/-- a loop's counter below its bound -/
def qmu (b x : Int32) : Nat := (b.toInt - x.toInt).toNat
theorem q_mu {b x : Int32} {n : Nat} (h : ¬ b ≤ x) (hm : qmu b x < n + 1) : qmu b (x + 1) < n := by
  have h1 := q_nle h
  rw [Int32.lt_iff_toInt_lt] at h1
  have h2 : (x + 1).toInt = x.toInt + 1 := by
    have hb := Int32.toInt_lt b
    have hx := Int32.le_toInt x
    rw [Int32.toInt_add]
    have : (1 : Int32).toInt = 1 := by decide
    rw [this]
    exact Int.bmod_eq_of_le (by omega) (by omega)
  unfold qmu at hm ⊢
  omega
theorem q_fuel (b : Int32) : qmu b 0 < b.toInt.toNat + 1 := by
  unfold qmu
  rw [Int32.toInt_zero]
  omega
