/-! LAW: changes -/
theorem dL_changes_0 : decode cL_changes 0 = .ok (.iload_n 1, 1) := by decide +kernel
theorem dL_changes_1 : decode cL_changes 1 = .ok (.iconst 4, 1) := by decide +kernel
theorem dL_changes_2 : decode cL_changes 2 = .ok (.ishr, 1) := by decide +kernel
theorem dL_changes_3 : decode cL_changes 3 = .ok (.aload_n 0, 1) := by decide +kernel
theorem dL_changes_4 : decode cL_changes 4 = .ok (.iconst 0, 1) := by decide +kernel
theorem dL_changes_5 : decode cL_changes 5 = .ok (.invokevirtual 81, 3) := by decide +kernel
theorem dL_changes_8 : decode cL_changes 8 = .ok (.iconst 1, 1) := by decide +kernel
theorem dL_changes_9 : decode cL_changes 9 = .ok (.iadd, 1) := by decide +kernel
theorem dL_changes_10 : decode cL_changes 10 = .ok (.invokestatic 40, 3) := by decide +kernel
theorem dL_changes_13 : decode cL_changes 13 = .ok (.istore_n 2, 1) := by decide +kernel
theorem dL_changes_14 : decode cL_changes 14 = .ok (.iload_n 1, 1) := by decide +kernel
theorem dL_changes_15 : decode cL_changes 15 = .ok (.bipush 8, 2) := by decide +kernel
theorem dL_changes_17 : decode cL_changes 17 = .ok (.ishr, 1) := by decide +kernel
theorem dL_changes_18 : decode cL_changes 18 = .ok (.aload_n 0, 1) := by decide +kernel
theorem dL_changes_19 : decode cL_changes 19 = .ok (.iconst 0, 1) := by decide +kernel
theorem dL_changes_20 : decode cL_changes 20 = .ok (.invokevirtual 81, 3) := by decide +kernel
theorem dL_changes_23 : decode cL_changes 23 = .ok (.iconst 1, 1) := by decide +kernel
theorem dL_changes_24 : decode cL_changes 24 = .ok (.iadd, 1) := by decide +kernel
theorem dL_changes_25 : decode cL_changes 25 = .ok (.invokestatic 40, 3) := by decide +kernel
theorem dL_changes_28 : decode cL_changes 28 = .ok (.istore_n 3, 1) := by decide +kernel
theorem dL_changes_29 : decode cL_changes 29 = .ok (.iload_n 1, 1) := by decide +kernel
theorem dL_changes_30 : decode cL_changes 30 = .ok (.bipush 20, 2) := by decide +kernel
theorem dL_changes_32 : decode cL_changes 32 = .ok (.invokestatic 40, 3) := by decide +kernel
theorem dL_changes_35 : decode cL_changes 35 = .ok (.tableswitch 209 0 16 #[81, 81, 102, 102, 102, 102, 102, 117, 117, 131, 131, 145, 145, 159, 182, 196, 196], 81) := by decide +kernel
theorem dL_changes_116 : decode cL_changes 116 = .ok (.aload_n 0, 1) := by decide +kernel
theorem dL_changes_117 : decode cL_changes 117 = .ok (.iload_n 1, 1) := by decide +kernel
theorem dL_changes_118 : decode cL_changes 118 = .ok (.iconst 4, 1) := by decide +kernel
theorem dL_changes_119 : decode cL_changes 119 = .ok (.ishr, 1) := by decide +kernel
theorem dL_changes_120 : decode cL_changes 120 = .ok (.bipush 102, 2) := by decide +kernel
theorem dL_changes_122 : decode cL_changes 122 = .ok (.invokestatic 40, 3) := by decide +kernel
theorem dL_changes_125 : decode cL_changes 125 = .ok (.invokevirtual 44, 3) := by decide +kernel
theorem dL_changes_128 : decode cL_changes 128 = .ok (.ifCond .lt 7, 3) := by decide +kernel
theorem dL_changes_131 : decode cL_changes 131 = .ok (.iconst 1, 1) := by decide +kernel
theorem dL_changes_132 : decode cL_changes 132 = .ok (.goto 4, 3) := by decide +kernel
theorem dL_changes_135 : decode cL_changes 135 = .ok (.iconst 0, 1) := by decide +kernel
theorem dL_changes_136 : decode cL_changes 136 = .ok (.ireturn, 1) := by decide +kernel
theorem dL_changes_137 : decode cL_changes 137 = .ok (.aload_n 0, 1) := by decide +kernel
theorem dL_changes_138 : decode cL_changes 138 = .ok (.iload_n 2, 1) := by decide +kernel
theorem dL_changes_139 : decode cL_changes 139 = .ok (.iload_n 3, 1) := by decide +kernel
theorem dL_changes_140 : decode cL_changes 140 = .ok (.invokevirtual 47, 3) := by decide +kernel
theorem dL_changes_143 : decode cL_changes 143 = .ok (.ifCond .lt 7, 3) := by decide +kernel
theorem dL_changes_146 : decode cL_changes 146 = .ok (.iconst 1, 1) := by decide +kernel
theorem dL_changes_147 : decode cL_changes 147 = .ok (.goto 4, 3) := by decide +kernel
theorem dL_changes_150 : decode cL_changes 150 = .ok (.iconst 0, 1) := by decide +kernel
theorem dL_changes_151 : decode cL_changes 151 = .ok (.ireturn, 1) := by decide +kernel
theorem dL_changes_152 : decode cL_changes 152 = .ok (.aload_n 0, 1) := by decide +kernel
theorem dL_changes_153 : decode cL_changes 153 = .ok (.iload_n 2, 1) := by decide +kernel
theorem dL_changes_154 : decode cL_changes 154 = .ok (.invokevirtual 135, 3) := by decide +kernel
theorem dL_changes_157 : decode cL_changes 157 = .ok (.ifCond .lt 7, 3) := by decide +kernel
theorem dL_changes_160 : decode cL_changes 160 = .ok (.iconst 1, 1) := by decide +kernel
theorem dL_changes_161 : decode cL_changes 161 = .ok (.goto 4, 3) := by decide +kernel
theorem dL_changes_164 : decode cL_changes 164 = .ok (.iconst 0, 1) := by decide +kernel
theorem dL_changes_165 : decode cL_changes 165 = .ok (.ireturn, 1) := by decide +kernel
theorem dL_changes_166 : decode cL_changes 166 = .ok (.aload_n 0, 1) := by decide +kernel
theorem dL_changes_167 : decode cL_changes 167 = .ok (.iload_n 2, 1) := by decide +kernel
theorem dL_changes_168 : decode cL_changes 168 = .ok (.invokevirtual 50, 3) := by decide +kernel
theorem dL_changes_171 : decode cL_changes 171 = .ok (.ifCond .lt 7, 3) := by decide +kernel
theorem dL_changes_174 : decode cL_changes 174 = .ok (.iconst 1, 1) := by decide +kernel
theorem dL_changes_175 : decode cL_changes 175 = .ok (.goto 4, 3) := by decide +kernel
theorem dL_changes_178 : decode cL_changes 178 = .ok (.iconst 0, 1) := by decide +kernel
theorem dL_changes_179 : decode cL_changes 179 = .ok (.ireturn, 1) := by decide +kernel
theorem dL_changes_180 : decode cL_changes 180 = .ok (.aload_n 0, 1) := by decide +kernel
theorem dL_changes_181 : decode cL_changes 181 = .ok (.iload_n 2, 1) := by decide +kernel
theorem dL_changes_182 : decode cL_changes 182 = .ok (.invokevirtual 138, 3) := by decide +kernel
theorem dL_changes_185 : decode cL_changes 185 = .ok (.ifCond .lt 7, 3) := by decide +kernel
theorem dL_changes_188 : decode cL_changes 188 = .ok (.iconst 1, 1) := by decide +kernel
theorem dL_changes_189 : decode cL_changes 189 = .ok (.goto 4, 3) := by decide +kernel
theorem dL_changes_192 : decode cL_changes 192 = .ok (.iconst 0, 1) := by decide +kernel
theorem dL_changes_193 : decode cL_changes 193 = .ok (.ireturn, 1) := by decide +kernel
theorem dL_changes_194 : decode cL_changes 194 = .ok (.aload_n 0, 1) := by decide +kernel
theorem dL_changes_195 : decode cL_changes 195 = .ok (.iload_n 2, 1) := by decide +kernel
theorem dL_changes_196 : decode cL_changes 196 = .ok (.iload_n 1, 1) := by decide +kernel
theorem dL_changes_197 : decode cL_changes 197 = .ok (.bipush 6, 2) := by decide +kernel
theorem dL_changes_199 : decode cL_changes 199 = .ok (.ishr, 1) := by decide +kernel
theorem dL_changes_200 : decode cL_changes 200 = .ok (.bipush 102, 2) := by decide +kernel
theorem dL_changes_202 : decode cL_changes 202 = .ok (.invokestatic 40, 3) := by decide +kernel
theorem dL_changes_205 : decode cL_changes 205 = .ok (.invokevirtual 141, 3) := by decide +kernel
theorem dL_changes_208 : decode cL_changes 208 = .ok (.ifCond .lt 7, 3) := by decide +kernel
theorem dL_changes_211 : decode cL_changes 211 = .ok (.iconst 1, 1) := by decide +kernel
theorem dL_changes_212 : decode cL_changes 212 = .ok (.goto 4, 3) := by decide +kernel
theorem dL_changes_215 : decode cL_changes 215 = .ok (.iconst 0, 1) := by decide +kernel
theorem dL_changes_216 : decode cL_changes 216 = .ok (.ireturn, 1) := by decide +kernel
theorem dL_changes_217 : decode cL_changes 217 = .ok (.aload_n 0, 1) := by decide +kernel
theorem dL_changes_218 : decode cL_changes 218 = .ok (.iload_n 2, 1) := by decide +kernel
theorem dL_changes_219 : decode cL_changes 219 = .ok (.invokevirtual 53, 3) := by decide +kernel
theorem dL_changes_222 : decode cL_changes 222 = .ok (.ifCond .lt 7, 3) := by decide +kernel
theorem dL_changes_225 : decode cL_changes 225 = .ok (.iconst 1, 1) := by decide +kernel
theorem dL_changes_226 : decode cL_changes 226 = .ok (.goto 4, 3) := by decide +kernel
theorem dL_changes_229 : decode cL_changes 229 = .ok (.iconst 0, 1) := by decide +kernel
theorem dL_changes_230 : decode cL_changes 230 = .ok (.ireturn, 1) := by decide +kernel
theorem dL_changes_231 : decode cL_changes 231 = .ok (.aload_n 0, 1) := by decide +kernel
theorem dL_changes_232 : decode cL_changes 232 = .ok (.invokevirtual 144, 3) := by decide +kernel
theorem dL_changes_235 : decode cL_changes 235 = .ok (.ifCond .lt 7, 3) := by decide +kernel
theorem dL_changes_238 : decode cL_changes 238 = .ok (.iconst 1, 1) := by decide +kernel
theorem dL_changes_239 : decode cL_changes 239 = .ok (.goto 4, 3) := by decide +kernel
theorem dL_changes_242 : decode cL_changes 242 = .ok (.iconst 0, 1) := by decide +kernel
theorem dL_changes_243 : decode cL_changes 243 = .ok (.ireturn, 1) := by decide +kernel
theorem dL_changes_244 : decode cL_changes 244 = .ok (.aload_n 0, 1) := by decide +kernel
theorem dL_changes_245 : decode cL_changes 245 = .ok (.iload_n 1, 1) := by decide +kernel
theorem dL_changes_246 : decode cL_changes 246 = .ok (.bipush 6, 2) := by decide +kernel
theorem dL_changes_248 : decode cL_changes 248 = .ok (.ishr, 1) := by decide +kernel
theorem dL_changes_249 : decode cL_changes 249 = .ok (.iconst 1, 1) := by decide +kernel
theorem dL_changes_250 : decode cL_changes 250 = .ok (.iand, 1) := by decide +kernel
theorem dL_changes_251 : decode cL_changes 251 = .ok (.ifCond .ne 34, 3) := by decide +kernel
theorem dL_changes_254 : decode cL_changes 254 = .ok (.new 147, 3) := by decide +kernel
theorem dL_changes_257 : decode cL_changes 257 = .ok (.dup, 1) := by decide +kernel
theorem dL_changes_258 : decode cL_changes 258 = .ok (.invokespecial 149, 3) := by decide +kernel
theorem dL_changes_261 : decode cL_changes 261 = .ok (.ldc 150, 2) := by decide +kernel
theorem dL_changes_263 : decode cL_changes 263 = .ok (.invokevirtual 152, 3) := by decide +kernel
theorem dL_changes_266 : decode cL_changes 266 = .ok (.iload_n 2, 1) := by decide +kernel
theorem dL_changes_267 : decode cL_changes 267 = .ok (.invokevirtual 155, 3) := by decide +kernel
theorem dL_changes_270 : decode cL_changes 270 = .ok (.ldc 158, 2) := by decide +kernel
theorem dL_changes_272 : decode cL_changes 272 = .ok (.invokevirtual 152, 3) := by decide +kernel
theorem dL_changes_275 : decode cL_changes 275 = .ok (.iload_n 3, 1) := by decide +kernel
theorem dL_changes_276 : decode cL_changes 276 = .ok (.invokevirtual 155, 3) := by decide +kernel
theorem dL_changes_279 : decode cL_changes 279 = .ok (.invokevirtual 160, 3) := by decide +kernel
theorem dL_changes_282 : decode cL_changes 282 = .ok (.goto 34, 3) := by decide +kernel
theorem dL_changes_285 : decode cL_changes 285 = .ok (.new 147, 3) := by decide +kernel
theorem dL_changes_288 : decode cL_changes 288 = .ok (.dup, 1) := by decide +kernel
theorem dL_changes_289 : decode cL_changes 289 = .ok (.invokespecial 149, 3) := by decide +kernel
theorem dL_changes_292 : decode cL_changes 292 = .ok (.ldc 164, 2) := by decide +kernel
theorem dL_changes_294 : decode cL_changes 294 = .ok (.invokevirtual 152, 3) := by decide +kernel
theorem dL_changes_297 : decode cL_changes 297 = .ok (.iload_n 1, 1) := by decide +kernel
theorem dL_changes_298 : decode cL_changes 298 = .ok (.iconst 4, 1) := by decide +kernel
theorem dL_changes_299 : decode cL_changes 299 = .ok (.ishr, 1) := by decide +kernel
theorem dL_changes_300 : decode cL_changes 300 = .ok (.bipush 100, 2) := by decide +kernel
theorem dL_changes_302 : decode cL_changes 302 = .ok (.invokestatic 40, 3) := by decide +kernel
theorem dL_changes_305 : decode cL_changes 305 = .ok (.invokevirtual 155, 3) := by decide +kernel
theorem dL_changes_308 : decode cL_changes 308 = .ok (.ldc 166, 2) := by decide +kernel
theorem dL_changes_310 : decode cL_changes 310 = .ok (.invokevirtual 152, 3) := by decide +kernel
theorem dL_changes_313 : decode cL_changes 313 = .ok (.invokevirtual 160, 3) := by decide +kernel
theorem dL_changes_316 : decode cL_changes 316 = .ok (.invokestatic 168, 3) := by decide +kernel
theorem dL_changes_319 : decode cL_changes 319 = .ok (.ifCond .lt 7, 3) := by decide +kernel
theorem dL_changes_322 : decode cL_changes 322 = .ok (.iconst 1, 1) := by decide +kernel
theorem dL_changes_323 : decode cL_changes 323 = .ok (.goto 4, 3) := by decide +kernel
theorem dL_changes_326 : decode cL_changes 326 = .ok (.iconst 0, 1) := by decide +kernel
theorem dL_changes_327 : decode cL_changes 327 = .ok (.ireturn, 1) := by decide +kernel
theorem jl0 : (jCt 0).length = 5 := rfl
theorem jl1 : (jCt 1).length = 5 := rfl
theorem jl2 : (jCt 2).length = 6 := rfl
theorem jl3 : (jCt 3).length = 5 := rfl
theorem jl6 : (jCt 6).length = 15 := rfl
set_option maxHeartbeats 16000000 in
set_option maxRecDepth 20000 in
theorem c_L_changes (l : Launch) (D : va_G) (cs : qC) {N00 : Nat} {M0 : qM} {N a : Nat} {f : (Int32 × Int32)} {q : qQV} {h : qHV} {i : qIV} {rs : qRV} {Q : List qQV} {c : Nat} (x : Int32) (hd : qDom N00 M0 N) (ha : a + 167 ≤ N) (hL0 : qLX cs M0 a f) (hL1 : qLQ cs M0 (a + 1) q) (hL2 : qLH cs M0 (a + 40) h) (hL3 : qLI cs M0 (a + 159) i) (hL4 : qLR cs M0 (a + 166) rs) (hq : Iv q) (hH : HI h Q c) :
    qMetF l (jX N00 cs) D cs yL_changes (qws yL_changes cL_changes 4 (some .boolean)) ({ frames := 12, cells := 8, slots := 194, locals := 760 } : Room) M0 N [.ref a, .int x] (ChP cs N a q Q c f M0) 8 194 := by
  refine f_head (by decide +kernel) ?_ (Nat.le_of_ble_eq_true rfl)
  intro p e s m0 below meth c0 ls hx hb hret hlk hml hown hnm hg hK hN hP hI hl
  have hl : lv_has ls 4 [(0, .ref a), (1, .int x)] := hl
  obtain ⟨m, hm, hc⟩ := iB_nat (n := 16) hq.1.2.2 (by decide)
  have hm0 : ¬ nI (m + 1) = 0 := fun z => absurd ((nI_eq (by omega) (by decide : 0 < 2 ^ 31)).mp z) (by omega)
  refine lv_iload_n hx hb dL_changes_0 rfl (lv_at hl 1 rfl) ?_
  refine lv_iconst (v := 4) hx hb dL_changes_1 (by decide) ?_
  refine lv_ishr hx hb dL_changes_2 ?_
  refine lv_aload_n hx hb dL_changes_3 rfl (lv_at hl 0 rfl) ?_
  refine lv_iconst (v := 0) hx hb dL_changes_4 (by decide) ?_
  refine q_goR (q_runV (As := [.int 0]) (rest := [.int (x >>> (4 &&& 31))]) hx hb hml hown hg (c_X10_account l D cs hL0 hL1 hL2 hL3 0) v_X10_account wl_L_81 rfl rfl ⟨Nat.le_of_ble_eq_true rfl, Nat.le_of_ble_eq_true rfl⟩ hI hK 10 hL0 rfl hl.1 rfl rfl (Nat.le_of_ble_eq_true rfl) dL_changes_5 ⟨Nat.le_of_ble_eq_true rfl, Nat.le_of_ble_eq_true rfl⟩) hI (fun H locs hI => ?_)
  rw [acc0, hc]
  refine lv_iconst (v := 1) hx hb dL_changes_8 (by decide) ?_
  refine lv_iadd hx hb dL_changes_9 ?_
  rw [show nI m + 1 = nI (m + 1) from (nI_succ m).symm]
  refine j_go (j_runS (As := [.int (x >>> (4 &&& 31)), .int (nI (m + 1))]) (rest := []) hx hb hml hown hg (j_some l (x >>> (4 &&& 31)) (nI (m + 1)) (hm0)) v_L_some wl_L_40 rfl rfl ⟨Nat.le_of_ble_eq_true rfl, Nat.le_of_ble_eq_true rfl⟩ qSt.tt trivial hl.1 rfl rfl (Nat.le_of_ble_eq_true rfl) dL_changes_10 ⟨Nat.le_of_ble_eq_true rfl, Nat.le_of_ble_eq_true rfl⟩) ?_
  obtain ⟨ja, hja, eja⟩ := some_nI (x >>> (4 &&& 31)) (m + 1) (by omega) (by omega)
  rw [eja]
  refine lv_istore_n (lv' := [(2, .int (nI ja)), (0, .ref a), (1, .int x)]) hx hb dL_changes_13 rfl hl (by decide) rfl (fun ls hl => ?_)
  refine lv_iload_n hx hb dL_changes_14 rfl (lv_at hl 2 rfl) ?_
  refine lv_bipush (v := 8) hx hb dL_changes_15 (by decide) ?_
  refine lv_ishr hx hb dL_changes_17 ?_
  refine lv_aload_n hx hb dL_changes_18 rfl (lv_at hl 1 rfl) ?_
  refine lv_iconst (v := 0) hx hb dL_changes_19 (by decide) ?_
  refine q_goR (q_runV (As := [.int 0]) (rest := [.int (x >>> (8 &&& 31))]) hx hb hml hown hg (c_X10_account l D cs hL0 hL1 hL2 hL3 0) v_X10_account wl_L_81 rfl rfl ⟨Nat.le_of_ble_eq_true rfl, Nat.le_of_ble_eq_true rfl⟩ hI hK 10 hL0 rfl hl.1 rfl rfl (Nat.le_of_ble_eq_true rfl) dL_changes_20 ⟨Nat.le_of_ble_eq_true rfl, Nat.le_of_ble_eq_true rfl⟩) hI (fun H locs hI => ?_)
  rw [acc0, hc]
  refine lv_iconst (v := 1) hx hb dL_changes_23 (by decide) ?_
  refine lv_iadd hx hb dL_changes_24 ?_
  rw [show nI m + 1 = nI (m + 1) from (nI_succ m).symm]
  refine j_go (j_runS (As := [.int (x >>> (8 &&& 31)), .int (nI (m + 1))]) (rest := []) hx hb hml hown hg (j_some l (x >>> (8 &&& 31)) (nI (m + 1)) (hm0)) v_L_some wl_L_40 rfl rfl ⟨Nat.le_of_ble_eq_true rfl, Nat.le_of_ble_eq_true rfl⟩ qSt.tt trivial hl.1 rfl rfl (Nat.le_of_ble_eq_true rfl) dL_changes_25 ⟨Nat.le_of_ble_eq_true rfl, Nat.le_of_ble_eq_true rfl⟩) ?_
  obtain ⟨jb, hjb, ejb⟩ := some_nI (x >>> (8 &&& 31)) (m + 1) (by omega) (by omega)
  rw [ejb]
  refine lv_istore_n (lv' := [(3, .int (nI jb)), (2, .int (nI ja)), (0, .ref a), (1, .int x)]) hx hb dL_changes_28 rfl hl (by decide) rfl (fun ls hl => ?_)
  refine lv_iload_n hx hb dL_changes_29 rfl (lv_at hl 3 rfl) ?_
  refine lv_bipush (v := 20) hx hb dL_changes_30 (by decide) ?_
  refine j_go (j_runS (As := [.int x, .int 20]) (rest := []) hx hb hml hown hg (j_some l x 20 (by decide)) v_L_some wl_L_40 rfl rfl ⟨Nat.le_of_ble_eq_true rfl, Nat.le_of_ble_eq_true rfl⟩ qSt.tt trivial hl.1 rfl rfl (Nat.le_of_ble_eq_true rfl) dL_changes_32 ⟨Nat.le_of_ble_eq_true rfl, Nat.le_of_ble_eq_true rfl⟩) ?_
  generalize s_some x 20 = w
  by_cases h0 : w = 0
  · refine lv_tableIn (off := 81) (tgt := 116) hx hb dL_changes_35 (by rw [h0]; decide) (by rw [h0]; decide) (by rw [h0]; decide) (by decide) ?_
    refine lv_aload_n hx hb dL_changes_116 rfl (lv_at hl 2 rfl) ?_
    refine lv_iload_n hx hb dL_changes_117 rfl (lv_at hl 3 rfl) ?_
    refine lv_iconst (v := 4) hx hb dL_changes_118 (by decide) ?_
    refine lv_ishr hx hb dL_changes_119 ?_
    refine lv_bipush (v := 102) hx hb dL_changes_120 (by decide) ?_
    refine j_go (j_runS (As := [.int (x >>> (4 &&& 31)), .int 102]) (rest := [.ref a]) hx hb hml hown hg (j_some l (x >>> (4 &&& 31)) 102 (by decide)) v_L_some wl_L_40 rfl rfl ⟨Nat.le_of_ble_eq_true rfl, Nat.le_of_ble_eq_true rfl⟩ qSt.tt trivial hl.1 rfl rfl (Nat.le_of_ble_eq_true rfl) dL_changes_122 ⟨Nat.le_of_ble_eq_true rfl, Nat.le_of_ble_eq_true rfl⟩) ?_
    refine q_goP (q_runV (As := [.int (s_some (x >>> (4 &&& 31)) 102)]) (rest := []) hx hb hml hown hg (c_X10_block l D cs hL0 hL1 hL2 hL4 (s_some (x >>> (4 &&& 31)) 102)) v_X10_block wl_L_44 rfl rfl ⟨Nat.le_of_ble_eq_true rfl, Nat.le_of_ble_eq_true rfl⟩ hI hK 10 hL0 rfl hl.1 rfl rfl (Nat.le_of_ble_eq_true rfl) dL_changes_125 ⟨Nat.le_of_ble_eq_true rfl, Nat.le_of_ble_eq_true rfl⟩) hI (fun M H locs hp hI => ?_)
    have hcg := chg_block f rs (s_some (x >>> (4 &&& 31)) 102) hH hq
    generalize s_X10_block f q h rs (s_some (x >>> (4 &&& 31)) 102) = R at hcg hp ⊢
    obtain ⟨hn1, hn2, hn4, hF⟩ := hp
    have hn0 := hL0.fr hF (fun q h1 h2 hq => by omega)
    have hn3 := hL3.fr hF (fun q h1 h2 hq => by omega)
    refine lv_if_lt (tgt := 135) hx hb dL_changes_128 (by decide) (fun h9 => ?_) (fun h9 => ?_)
    · refine lv_iconst (v := 0) hx hb dL_changes_135 (by decide) ?_
      refine W.widen (k := 8) (n := 194) (Nat.le_of_ble_eq_true rfl) (Nat.le_of_ble_eq_true rfl) ?_
      exact q_zret hx hb hret rfl hlk hN hI ⟨R.1, f, R.2.1, R.2.2.1, i, R.2.2.2, congrArg (fun z => some (Value.int z)) (dec_neg h9), hcg, rfl, hn0, hn1, hn2, hn3, hn4, qFr.rf.tr hF (fun q hq => by omega), Nat.le_refl _⟩ dL_changes_136
    · refine lv_iconst (v := 1) hx hb dL_changes_131 (by decide) ?_
      refine lv_goto (tgt := 136) hx hb dL_changes_132 (by decide) ?_
      refine W.widen (k := 8) (n := 194) (Nat.le_of_ble_eq_true rfl) (Nat.le_of_ble_eq_true rfl) ?_
      exact q_zret hx hb hret rfl hlk hN hI ⟨R.1, f, R.2.1, R.2.2.1, i, R.2.2.2, congrArg (fun z => some (Value.int z)) (dec_pos h9), hcg, rfl, hn0, hn1, hn2, hn3, hn4, qFr.rf.tr hF (fun q hq => by omega), Nat.le_refl _⟩ dL_changes_136
  by_cases h1 : w = 1
  · refine lv_tableIn (off := 81) (tgt := 116) hx hb dL_changes_35 (by rw [h1]; decide) (by rw [h1]; decide) (by rw [h1]; decide) (by decide) ?_
    refine lv_aload_n hx hb dL_changes_116 rfl (lv_at hl 2 rfl) ?_
    refine lv_iload_n hx hb dL_changes_117 rfl (lv_at hl 3 rfl) ?_
    refine lv_iconst (v := 4) hx hb dL_changes_118 (by decide) ?_
    refine lv_ishr hx hb dL_changes_119 ?_
    refine lv_bipush (v := 102) hx hb dL_changes_120 (by decide) ?_
    refine j_go (j_runS (As := [.int (x >>> (4 &&& 31)), .int 102]) (rest := [.ref a]) hx hb hml hown hg (j_some l (x >>> (4 &&& 31)) 102 (by decide)) v_L_some wl_L_40 rfl rfl ⟨Nat.le_of_ble_eq_true rfl, Nat.le_of_ble_eq_true rfl⟩ qSt.tt trivial hl.1 rfl rfl (Nat.le_of_ble_eq_true rfl) dL_changes_122 ⟨Nat.le_of_ble_eq_true rfl, Nat.le_of_ble_eq_true rfl⟩) ?_
    refine q_goP (q_runV (As := [.int (s_some (x >>> (4 &&& 31)) 102)]) (rest := []) hx hb hml hown hg (c_X10_block l D cs hL0 hL1 hL2 hL4 (s_some (x >>> (4 &&& 31)) 102)) v_X10_block wl_L_44 rfl rfl ⟨Nat.le_of_ble_eq_true rfl, Nat.le_of_ble_eq_true rfl⟩ hI hK 10 hL0 rfl hl.1 rfl rfl (Nat.le_of_ble_eq_true rfl) dL_changes_125 ⟨Nat.le_of_ble_eq_true rfl, Nat.le_of_ble_eq_true rfl⟩) hI (fun M H locs hp hI => ?_)
    have hcg := chg_block f rs (s_some (x >>> (4 &&& 31)) 102) hH hq
    generalize s_X10_block f q h rs (s_some (x >>> (4 &&& 31)) 102) = R at hcg hp ⊢
    obtain ⟨hn1, hn2, hn4, hF⟩ := hp
    have hn0 := hL0.fr hF (fun q h1 h2 hq => by omega)
    have hn3 := hL3.fr hF (fun q h1 h2 hq => by omega)
    refine lv_if_lt (tgt := 135) hx hb dL_changes_128 (by decide) (fun h9 => ?_) (fun h9 => ?_)
    · refine lv_iconst (v := 0) hx hb dL_changes_135 (by decide) ?_
      refine W.widen (k := 8) (n := 194) (Nat.le_of_ble_eq_true rfl) (Nat.le_of_ble_eq_true rfl) ?_
      exact q_zret hx hb hret rfl hlk hN hI ⟨R.1, f, R.2.1, R.2.2.1, i, R.2.2.2, congrArg (fun z => some (Value.int z)) (dec_neg h9), hcg, rfl, hn0, hn1, hn2, hn3, hn4, qFr.rf.tr hF (fun q hq => by omega), Nat.le_refl _⟩ dL_changes_136
    · refine lv_iconst (v := 1) hx hb dL_changes_131 (by decide) ?_
      refine lv_goto (tgt := 136) hx hb dL_changes_132 (by decide) ?_
      refine W.widen (k := 8) (n := 194) (Nat.le_of_ble_eq_true rfl) (Nat.le_of_ble_eq_true rfl) ?_
      exact q_zret hx hb hret rfl hlk hN hI ⟨R.1, f, R.2.1, R.2.2.1, i, R.2.2.2, congrArg (fun z => some (Value.int z)) (dec_pos h9), hcg, rfl, hn0, hn1, hn2, hn3, hn4, qFr.rf.tr hF (fun q hq => by omega), Nat.le_refl _⟩ dL_changes_136
  by_cases h2 : w = 2
  · refine lv_tableIn (off := 102) (tgt := 137) hx hb dL_changes_35 (by rw [h2]; decide) (by rw [h2]; decide) (by rw [h2]; decide) (by decide) ?_
    refine lv_aload_n hx hb dL_changes_137 rfl (lv_at hl 2 rfl) ?_
    refine lv_iload_n hx hb dL_changes_138 rfl (lv_at hl 1 rfl) ?_
    refine lv_iload_n hx hb dL_changes_139 rfl (lv_at hl 0 rfl) ?_
    refine q_goP (q_runV (As := [.int (nI ja), .int (nI jb)]) (rest := []) hx hb hml hown hg (c_X10_hang l D cs hL0 hL1 hL2 hL4 (nI ja) (nI jb)) v_X10_hang wl_L_47 rfl rfl ⟨Nat.le_of_ble_eq_true rfl, Nat.le_of_ble_eq_true rfl⟩ hI hK 10 hL0 rfl hl.1 rfl rfl (Nat.le_of_ble_eq_true rfl) dL_changes_140 ⟨Nat.le_of_ble_eq_true rfl, Nat.le_of_ble_eq_true rfl⟩) hI (fun M H locs hp hI => ?_)
    have hcg := chg_hang f rs (nI ja) (nI jb) hH hq
    generalize s_X10_hang f q h rs (nI ja) (nI jb) = R at hcg hp ⊢
    obtain ⟨hn1, hn2, hn4, hF⟩ := hp
    have hn0 := hL0.fr hF (fun q h1 h2 hq => by omega)
    have hn3 := hL3.fr hF (fun q h1 h2 hq => by omega)
    refine lv_if_lt (tgt := 150) hx hb dL_changes_143 (by decide) (fun h9 => ?_) (fun h9 => ?_)
    · refine lv_iconst (v := 0) hx hb dL_changes_150 (by decide) ?_
      refine W.widen (k := 8) (n := 194) (Nat.le_of_ble_eq_true rfl) (Nat.le_of_ble_eq_true rfl) ?_
      exact q_zret hx hb hret rfl hlk hN hI ⟨R.1, f, R.2.1, R.2.2.1, i, R.2.2.2, congrArg (fun z => some (Value.int z)) (dec_neg h9), hcg, rfl, hn0, hn1, hn2, hn3, hn4, qFr.rf.tr hF (fun q hq => by omega), Nat.le_refl _⟩ dL_changes_151
    · refine lv_iconst (v := 1) hx hb dL_changes_146 (by decide) ?_
      refine lv_goto (tgt := 151) hx hb dL_changes_147 (by decide) ?_
      refine W.widen (k := 8) (n := 194) (Nat.le_of_ble_eq_true rfl) (Nat.le_of_ble_eq_true rfl) ?_
      exact q_zret hx hb hret rfl hlk hN hI ⟨R.1, f, R.2.1, R.2.2.1, i, R.2.2.2, congrArg (fun z => some (Value.int z)) (dec_pos h9), hcg, rfl, hn0, hn1, hn2, hn3, hn4, qFr.rf.tr hF (fun q hq => by omega), Nat.le_refl _⟩ dL_changes_151
  by_cases h3 : w = 3
  · refine lv_tableIn (off := 102) (tgt := 137) hx hb dL_changes_35 (by rw [h3]; decide) (by rw [h3]; decide) (by rw [h3]; decide) (by decide) ?_
    refine lv_aload_n hx hb dL_changes_137 rfl (lv_at hl 2 rfl) ?_
    refine lv_iload_n hx hb dL_changes_138 rfl (lv_at hl 1 rfl) ?_
    refine lv_iload_n hx hb dL_changes_139 rfl (lv_at hl 0 rfl) ?_
    refine q_goP (q_runV (As := [.int (nI ja), .int (nI jb)]) (rest := []) hx hb hml hown hg (c_X10_hang l D cs hL0 hL1 hL2 hL4 (nI ja) (nI jb)) v_X10_hang wl_L_47 rfl rfl ⟨Nat.le_of_ble_eq_true rfl, Nat.le_of_ble_eq_true rfl⟩ hI hK 10 hL0 rfl hl.1 rfl rfl (Nat.le_of_ble_eq_true rfl) dL_changes_140 ⟨Nat.le_of_ble_eq_true rfl, Nat.le_of_ble_eq_true rfl⟩) hI (fun M H locs hp hI => ?_)
    have hcg := chg_hang f rs (nI ja) (nI jb) hH hq
    generalize s_X10_hang f q h rs (nI ja) (nI jb) = R at hcg hp ⊢
    obtain ⟨hn1, hn2, hn4, hF⟩ := hp
    have hn0 := hL0.fr hF (fun q h1 h2 hq => by omega)
    have hn3 := hL3.fr hF (fun q h1 h2 hq => by omega)
    refine lv_if_lt (tgt := 150) hx hb dL_changes_143 (by decide) (fun h9 => ?_) (fun h9 => ?_)
    · refine lv_iconst (v := 0) hx hb dL_changes_150 (by decide) ?_
      refine W.widen (k := 8) (n := 194) (Nat.le_of_ble_eq_true rfl) (Nat.le_of_ble_eq_true rfl) ?_
      exact q_zret hx hb hret rfl hlk hN hI ⟨R.1, f, R.2.1, R.2.2.1, i, R.2.2.2, congrArg (fun z => some (Value.int z)) (dec_neg h9), hcg, rfl, hn0, hn1, hn2, hn3, hn4, qFr.rf.tr hF (fun q hq => by omega), Nat.le_refl _⟩ dL_changes_151
    · refine lv_iconst (v := 1) hx hb dL_changes_146 (by decide) ?_
      refine lv_goto (tgt := 151) hx hb dL_changes_147 (by decide) ?_
      refine W.widen (k := 8) (n := 194) (Nat.le_of_ble_eq_true rfl) (Nat.le_of_ble_eq_true rfl) ?_
      exact q_zret hx hb hret rfl hlk hN hI ⟨R.1, f, R.2.1, R.2.2.1, i, R.2.2.2, congrArg (fun z => some (Value.int z)) (dec_pos h9), hcg, rfl, hn0, hn1, hn2, hn3, hn4, qFr.rf.tr hF (fun q hq => by omega), Nat.le_refl _⟩ dL_changes_151
  by_cases h4 : w = 4
  · refine lv_tableIn (off := 102) (tgt := 137) hx hb dL_changes_35 (by rw [h4]; decide) (by rw [h4]; decide) (by rw [h4]; decide) (by decide) ?_
    refine lv_aload_n hx hb dL_changes_137 rfl (lv_at hl 2 rfl) ?_
    refine lv_iload_n hx hb dL_changes_138 rfl (lv_at hl 1 rfl) ?_
    refine lv_iload_n hx hb dL_changes_139 rfl (lv_at hl 0 rfl) ?_
    refine q_goP (q_runV (As := [.int (nI ja), .int (nI jb)]) (rest := []) hx hb hml hown hg (c_X10_hang l D cs hL0 hL1 hL2 hL4 (nI ja) (nI jb)) v_X10_hang wl_L_47 rfl rfl ⟨Nat.le_of_ble_eq_true rfl, Nat.le_of_ble_eq_true rfl⟩ hI hK 10 hL0 rfl hl.1 rfl rfl (Nat.le_of_ble_eq_true rfl) dL_changes_140 ⟨Nat.le_of_ble_eq_true rfl, Nat.le_of_ble_eq_true rfl⟩) hI (fun M H locs hp hI => ?_)
    have hcg := chg_hang f rs (nI ja) (nI jb) hH hq
    generalize s_X10_hang f q h rs (nI ja) (nI jb) = R at hcg hp ⊢
    obtain ⟨hn1, hn2, hn4, hF⟩ := hp
    have hn0 := hL0.fr hF (fun q h1 h2 hq => by omega)
    have hn3 := hL3.fr hF (fun q h1 h2 hq => by omega)
    refine lv_if_lt (tgt := 150) hx hb dL_changes_143 (by decide) (fun h9 => ?_) (fun h9 => ?_)
    · refine lv_iconst (v := 0) hx hb dL_changes_150 (by decide) ?_
      refine W.widen (k := 8) (n := 194) (Nat.le_of_ble_eq_true rfl) (Nat.le_of_ble_eq_true rfl) ?_
      exact q_zret hx hb hret rfl hlk hN hI ⟨R.1, f, R.2.1, R.2.2.1, i, R.2.2.2, congrArg (fun z => some (Value.int z)) (dec_neg h9), hcg, rfl, hn0, hn1, hn2, hn3, hn4, qFr.rf.tr hF (fun q hq => by omega), Nat.le_refl _⟩ dL_changes_151
    · refine lv_iconst (v := 1) hx hb dL_changes_146 (by decide) ?_
      refine lv_goto (tgt := 151) hx hb dL_changes_147 (by decide) ?_
      refine W.widen (k := 8) (n := 194) (Nat.le_of_ble_eq_true rfl) (Nat.le_of_ble_eq_true rfl) ?_
      exact q_zret hx hb hret rfl hlk hN hI ⟨R.1, f, R.2.1, R.2.2.1, i, R.2.2.2, congrArg (fun z => some (Value.int z)) (dec_pos h9), hcg, rfl, hn0, hn1, hn2, hn3, hn4, qFr.rf.tr hF (fun q hq => by omega), Nat.le_refl _⟩ dL_changes_151
  by_cases h5 : w = 5
  · refine lv_tableIn (off := 102) (tgt := 137) hx hb dL_changes_35 (by rw [h5]; decide) (by rw [h5]; decide) (by rw [h5]; decide) (by decide) ?_
    refine lv_aload_n hx hb dL_changes_137 rfl (lv_at hl 2 rfl) ?_
    refine lv_iload_n hx hb dL_changes_138 rfl (lv_at hl 1 rfl) ?_
    refine lv_iload_n hx hb dL_changes_139 rfl (lv_at hl 0 rfl) ?_
    refine q_goP (q_runV (As := [.int (nI ja), .int (nI jb)]) (rest := []) hx hb hml hown hg (c_X10_hang l D cs hL0 hL1 hL2 hL4 (nI ja) (nI jb)) v_X10_hang wl_L_47 rfl rfl ⟨Nat.le_of_ble_eq_true rfl, Nat.le_of_ble_eq_true rfl⟩ hI hK 10 hL0 rfl hl.1 rfl rfl (Nat.le_of_ble_eq_true rfl) dL_changes_140 ⟨Nat.le_of_ble_eq_true rfl, Nat.le_of_ble_eq_true rfl⟩) hI (fun M H locs hp hI => ?_)
    have hcg := chg_hang f rs (nI ja) (nI jb) hH hq
    generalize s_X10_hang f q h rs (nI ja) (nI jb) = R at hcg hp ⊢
    obtain ⟨hn1, hn2, hn4, hF⟩ := hp
    have hn0 := hL0.fr hF (fun q h1 h2 hq => by omega)
    have hn3 := hL3.fr hF (fun q h1 h2 hq => by omega)
    refine lv_if_lt (tgt := 150) hx hb dL_changes_143 (by decide) (fun h9 => ?_) (fun h9 => ?_)
    · refine lv_iconst (v := 0) hx hb dL_changes_150 (by decide) ?_
      refine W.widen (k := 8) (n := 194) (Nat.le_of_ble_eq_true rfl) (Nat.le_of_ble_eq_true rfl) ?_
      exact q_zret hx hb hret rfl hlk hN hI ⟨R.1, f, R.2.1, R.2.2.1, i, R.2.2.2, congrArg (fun z => some (Value.int z)) (dec_neg h9), hcg, rfl, hn0, hn1, hn2, hn3, hn4, qFr.rf.tr hF (fun q hq => by omega), Nat.le_refl _⟩ dL_changes_151
    · refine lv_iconst (v := 1) hx hb dL_changes_146 (by decide) ?_
      refine lv_goto (tgt := 151) hx hb dL_changes_147 (by decide) ?_
      refine W.widen (k := 8) (n := 194) (Nat.le_of_ble_eq_true rfl) (Nat.le_of_ble_eq_true rfl) ?_
      exact q_zret hx hb hret rfl hlk hN hI ⟨R.1, f, R.2.1, R.2.2.1, i, R.2.2.2, congrArg (fun z => some (Value.int z)) (dec_pos h9), hcg, rfl, hn0, hn1, hn2, hn3, hn4, qFr.rf.tr hF (fun q hq => by omega), Nat.le_refl _⟩ dL_changes_151
  by_cases h6 : w = 6
  · refine lv_tableIn (off := 102) (tgt := 137) hx hb dL_changes_35 (by rw [h6]; decide) (by rw [h6]; decide) (by rw [h6]; decide) (by decide) ?_
    refine lv_aload_n hx hb dL_changes_137 rfl (lv_at hl 2 rfl) ?_
    refine lv_iload_n hx hb dL_changes_138 rfl (lv_at hl 1 rfl) ?_
    refine lv_iload_n hx hb dL_changes_139 rfl (lv_at hl 0 rfl) ?_
    refine q_goP (q_runV (As := [.int (nI ja), .int (nI jb)]) (rest := []) hx hb hml hown hg (c_X10_hang l D cs hL0 hL1 hL2 hL4 (nI ja) (nI jb)) v_X10_hang wl_L_47 rfl rfl ⟨Nat.le_of_ble_eq_true rfl, Nat.le_of_ble_eq_true rfl⟩ hI hK 10 hL0 rfl hl.1 rfl rfl (Nat.le_of_ble_eq_true rfl) dL_changes_140 ⟨Nat.le_of_ble_eq_true rfl, Nat.le_of_ble_eq_true rfl⟩) hI (fun M H locs hp hI => ?_)
    have hcg := chg_hang f rs (nI ja) (nI jb) hH hq
    generalize s_X10_hang f q h rs (nI ja) (nI jb) = R at hcg hp ⊢
    obtain ⟨hn1, hn2, hn4, hF⟩ := hp
    have hn0 := hL0.fr hF (fun q h1 h2 hq => by omega)
    have hn3 := hL3.fr hF (fun q h1 h2 hq => by omega)
    refine lv_if_lt (tgt := 150) hx hb dL_changes_143 (by decide) (fun h9 => ?_) (fun h9 => ?_)
    · refine lv_iconst (v := 0) hx hb dL_changes_150 (by decide) ?_
      refine W.widen (k := 8) (n := 194) (Nat.le_of_ble_eq_true rfl) (Nat.le_of_ble_eq_true rfl) ?_
      exact q_zret hx hb hret rfl hlk hN hI ⟨R.1, f, R.2.1, R.2.2.1, i, R.2.2.2, congrArg (fun z => some (Value.int z)) (dec_neg h9), hcg, rfl, hn0, hn1, hn2, hn3, hn4, qFr.rf.tr hF (fun q hq => by omega), Nat.le_refl _⟩ dL_changes_151
    · refine lv_iconst (v := 1) hx hb dL_changes_146 (by decide) ?_
      refine lv_goto (tgt := 151) hx hb dL_changes_147 (by decide) ?_
      refine W.widen (k := 8) (n := 194) (Nat.le_of_ble_eq_true rfl) (Nat.le_of_ble_eq_true rfl) ?_
      exact q_zret hx hb hret rfl hlk hN hI ⟨R.1, f, R.2.1, R.2.2.1, i, R.2.2.2, congrArg (fun z => some (Value.int z)) (dec_pos h9), hcg, rfl, hn0, hn1, hn2, hn3, hn4, qFr.rf.tr hF (fun q hq => by omega), Nat.le_refl _⟩ dL_changes_151
  by_cases h7 : w = 7
  · refine lv_tableIn (off := 117) (tgt := 152) hx hb dL_changes_35 (by rw [h7]; decide) (by rw [h7]; decide) (by rw [h7]; decide) (by decide) ?_
    refine lv_aload_n hx hb dL_changes_152 rfl (lv_at hl 2 rfl) ?_
    refine lv_iload_n hx hb dL_changes_153 rfl (lv_at hl 1 rfl) ?_
    refine q_goP (q_runV (As := [.int (nI ja)]) (rest := []) hx hb hml hown hg (c_X10_cut l D cs hL0 hL1 hL2 hL4 (nI ja)) v_X10_cut wl_L_135 rfl rfl ⟨Nat.le_of_ble_eq_true rfl, Nat.le_of_ble_eq_true rfl⟩ hI hK 10 hL0 rfl hl.1 rfl rfl (Nat.le_of_ble_eq_true rfl) dL_changes_154 ⟨Nat.le_of_ble_eq_true rfl, Nat.le_of_ble_eq_true rfl⟩) hI (fun M H locs hp hI => ?_)
    have hcg := chg_cut f rs (nI ja) hH hq
    generalize s_X10_cut f q h rs (nI ja) = R at hcg hp ⊢
    obtain ⟨hn1, hn2, hn4, hF⟩ := hp
    have hn0 := hL0.fr hF (fun q h1 h2 hq => by omega)
    have hn3 := hL3.fr hF (fun q h1 h2 hq => by omega)
    refine lv_if_lt (tgt := 164) hx hb dL_changes_157 (by decide) (fun h9 => ?_) (fun h9 => ?_)
    · refine lv_iconst (v := 0) hx hb dL_changes_164 (by decide) ?_
      refine W.widen (k := 8) (n := 194) (Nat.le_of_ble_eq_true rfl) (Nat.le_of_ble_eq_true rfl) ?_
      exact q_zret hx hb hret rfl hlk hN hI ⟨R.1, f, R.2.1, R.2.2.1, i, R.2.2.2, congrArg (fun z => some (Value.int z)) (dec_neg h9), hcg, rfl, hn0, hn1, hn2, hn3, hn4, qFr.rf.tr hF (fun q hq => by omega), Nat.le_refl _⟩ dL_changes_165
    · refine lv_iconst (v := 1) hx hb dL_changes_160 (by decide) ?_
      refine lv_goto (tgt := 165) hx hb dL_changes_161 (by decide) ?_
      refine W.widen (k := 8) (n := 194) (Nat.le_of_ble_eq_true rfl) (Nat.le_of_ble_eq_true rfl) ?_
      exact q_zret hx hb hret rfl hlk hN hI ⟨R.1, f, R.2.1, R.2.2.1, i, R.2.2.2, congrArg (fun z => some (Value.int z)) (dec_pos h9), hcg, rfl, hn0, hn1, hn2, hn3, hn4, qFr.rf.tr hF (fun q hq => by omega), Nat.le_refl _⟩ dL_changes_165
  by_cases h8 : w = 8
  · refine lv_tableIn (off := 117) (tgt := 152) hx hb dL_changes_35 (by rw [h8]; decide) (by rw [h8]; decide) (by rw [h8]; decide) (by decide) ?_
    refine lv_aload_n hx hb dL_changes_152 rfl (lv_at hl 2 rfl) ?_
    refine lv_iload_n hx hb dL_changes_153 rfl (lv_at hl 1 rfl) ?_
    refine q_goP (q_runV (As := [.int (nI ja)]) (rest := []) hx hb hml hown hg (c_X10_cut l D cs hL0 hL1 hL2 hL4 (nI ja)) v_X10_cut wl_L_135 rfl rfl ⟨Nat.le_of_ble_eq_true rfl, Nat.le_of_ble_eq_true rfl⟩ hI hK 10 hL0 rfl hl.1 rfl rfl (Nat.le_of_ble_eq_true rfl) dL_changes_154 ⟨Nat.le_of_ble_eq_true rfl, Nat.le_of_ble_eq_true rfl⟩) hI (fun M H locs hp hI => ?_)
    have hcg := chg_cut f rs (nI ja) hH hq
    generalize s_X10_cut f q h rs (nI ja) = R at hcg hp ⊢
    obtain ⟨hn1, hn2, hn4, hF⟩ := hp
    have hn0 := hL0.fr hF (fun q h1 h2 hq => by omega)
    have hn3 := hL3.fr hF (fun q h1 h2 hq => by omega)
    refine lv_if_lt (tgt := 164) hx hb dL_changes_157 (by decide) (fun h9 => ?_) (fun h9 => ?_)
    · refine lv_iconst (v := 0) hx hb dL_changes_164 (by decide) ?_
      refine W.widen (k := 8) (n := 194) (Nat.le_of_ble_eq_true rfl) (Nat.le_of_ble_eq_true rfl) ?_
      exact q_zret hx hb hret rfl hlk hN hI ⟨R.1, f, R.2.1, R.2.2.1, i, R.2.2.2, congrArg (fun z => some (Value.int z)) (dec_neg h9), hcg, rfl, hn0, hn1, hn2, hn3, hn4, qFr.rf.tr hF (fun q hq => by omega), Nat.le_refl _⟩ dL_changes_165
    · refine lv_iconst (v := 1) hx hb dL_changes_160 (by decide) ?_
      refine lv_goto (tgt := 165) hx hb dL_changes_161 (by decide) ?_
      refine W.widen (k := 8) (n := 194) (Nat.le_of_ble_eq_true rfl) (Nat.le_of_ble_eq_true rfl) ?_
      exact q_zret hx hb hret rfl hlk hN hI ⟨R.1, f, R.2.1, R.2.2.1, i, R.2.2.2, congrArg (fun z => some (Value.int z)) (dec_pos h9), hcg, rfl, hn0, hn1, hn2, hn3, hn4, qFr.rf.tr hF (fun q hq => by omega), Nat.le_refl _⟩ dL_changes_165
  by_cases h9 : w = 9
  · refine lv_tableIn (off := 131) (tgt := 166) hx hb dL_changes_35 (by rw [h9]; decide) (by rw [h9]; decide) (by rw [h9]; decide) (by decide) ?_
    refine lv_aload_n hx hb dL_changes_166 rfl (lv_at hl 2 rfl) ?_
    refine lv_iload_n hx hb dL_changes_167 rfl (lv_at hl 1 rfl) ?_
    refine q_goP (q_runV (As := [.int (nI ja)]) (rest := []) hx hb hml hown hg (c_X10_walk l D cs hL0 hL1 hL2 (nI ja)) v_X10_walk wl_L_50 rfl rfl ⟨Nat.le_of_ble_eq_true rfl, Nat.le_of_ble_eq_true rfl⟩ hI hK 10 hL0 rfl hl.1 rfl rfl (Nat.le_of_ble_eq_true rfl) dL_changes_168 ⟨Nat.le_of_ble_eq_true rfl, Nat.le_of_ble_eq_true rfl⟩) hI (fun M H locs hp hI => ?_)
    have hcg := chg_walk f (nI ja) hH hq
    generalize s_X10_walk f q h (nI ja) = R at hcg hp ⊢
    obtain ⟨hn1, hn2, hF⟩ := hp
    have hn4 := hL4.fr hF (fun q h1 h2 hq => by omega)
    have hn0 := hL0.fr hF (fun q h1 h2 hq => by omega)
    have hn3 := hL3.fr hF (fun q h1 h2 hq => by omega)
    refine lv_if_lt (tgt := 178) hx hb dL_changes_171 (by decide) (fun h9 => ?_) (fun h9 => ?_)
    · refine lv_iconst (v := 0) hx hb dL_changes_178 (by decide) ?_
      refine W.widen (k := 8) (n := 194) (Nat.le_of_ble_eq_true rfl) (Nat.le_of_ble_eq_true rfl) ?_
      exact q_zret hx hb hret rfl hlk hN hI ⟨R.1, f, R.2.1, R.2.2, i, rs, congrArg (fun z => some (Value.int z)) (dec_neg h9), hcg, rfl, hn0, hn1, hn2, hn3, hn4, qFr.rf.tr hF (fun q hq => by omega), Nat.le_refl _⟩ dL_changes_179
    · refine lv_iconst (v := 1) hx hb dL_changes_174 (by decide) ?_
      refine lv_goto (tgt := 179) hx hb dL_changes_175 (by decide) ?_
      refine W.widen (k := 8) (n := 194) (Nat.le_of_ble_eq_true rfl) (Nat.le_of_ble_eq_true rfl) ?_
      exact q_zret hx hb hret rfl hlk hN hI ⟨R.1, f, R.2.1, R.2.2, i, rs, congrArg (fun z => some (Value.int z)) (dec_pos h9), hcg, rfl, hn0, hn1, hn2, hn3, hn4, qFr.rf.tr hF (fun q hq => by omega), Nat.le_refl _⟩ dL_changes_179
  by_cases h10 : w = 10
  · refine lv_tableIn (off := 131) (tgt := 166) hx hb dL_changes_35 (by rw [h10]; decide) (by rw [h10]; decide) (by rw [h10]; decide) (by decide) ?_
    refine lv_aload_n hx hb dL_changes_166 rfl (lv_at hl 2 rfl) ?_
    refine lv_iload_n hx hb dL_changes_167 rfl (lv_at hl 1 rfl) ?_
    refine q_goP (q_runV (As := [.int (nI ja)]) (rest := []) hx hb hml hown hg (c_X10_walk l D cs hL0 hL1 hL2 (nI ja)) v_X10_walk wl_L_50 rfl rfl ⟨Nat.le_of_ble_eq_true rfl, Nat.le_of_ble_eq_true rfl⟩ hI hK 10 hL0 rfl hl.1 rfl rfl (Nat.le_of_ble_eq_true rfl) dL_changes_168 ⟨Nat.le_of_ble_eq_true rfl, Nat.le_of_ble_eq_true rfl⟩) hI (fun M H locs hp hI => ?_)
    have hcg := chg_walk f (nI ja) hH hq
    generalize s_X10_walk f q h (nI ja) = R at hcg hp ⊢
    obtain ⟨hn1, hn2, hF⟩ := hp
    have hn4 := hL4.fr hF (fun q h1 h2 hq => by omega)
    have hn0 := hL0.fr hF (fun q h1 h2 hq => by omega)
    have hn3 := hL3.fr hF (fun q h1 h2 hq => by omega)
    refine lv_if_lt (tgt := 178) hx hb dL_changes_171 (by decide) (fun h9 => ?_) (fun h9 => ?_)
    · refine lv_iconst (v := 0) hx hb dL_changes_178 (by decide) ?_
      refine W.widen (k := 8) (n := 194) (Nat.le_of_ble_eq_true rfl) (Nat.le_of_ble_eq_true rfl) ?_
      exact q_zret hx hb hret rfl hlk hN hI ⟨R.1, f, R.2.1, R.2.2, i, rs, congrArg (fun z => some (Value.int z)) (dec_neg h9), hcg, rfl, hn0, hn1, hn2, hn3, hn4, qFr.rf.tr hF (fun q hq => by omega), Nat.le_refl _⟩ dL_changes_179
    · refine lv_iconst (v := 1) hx hb dL_changes_174 (by decide) ?_
      refine lv_goto (tgt := 179) hx hb dL_changes_175 (by decide) ?_
      refine W.widen (k := 8) (n := 194) (Nat.le_of_ble_eq_true rfl) (Nat.le_of_ble_eq_true rfl) ?_
      exact q_zret hx hb hret rfl hlk hN hI ⟨R.1, f, R.2.1, R.2.2, i, rs, congrArg (fun z => some (Value.int z)) (dec_pos h9), hcg, rfl, hn0, hn1, hn2, hn3, hn4, qFr.rf.tr hF (fun q hq => by omega), Nat.le_refl _⟩ dL_changes_179
  by_cases h11 : w = 11
  · refine lv_tableIn (off := 145) (tgt := 180) hx hb dL_changes_35 (by rw [h11]; decide) (by rw [h11]; decide) (by rw [h11]; decide) (by decide) ?_
    refine lv_aload_n hx hb dL_changes_180 rfl (lv_at hl 2 rfl) ?_
    refine lv_iload_n hx hb dL_changes_181 rfl (lv_at hl 1 rfl) ?_
    refine q_goP (q_runV (As := [.int (nI ja)]) (rest := []) hx hb hml hown hg (c_X10_up l D cs hL0 hL1 hL2 (nI ja)) v_X10_up wl_L_138 rfl rfl ⟨Nat.le_of_ble_eq_true rfl, Nat.le_of_ble_eq_true rfl⟩ hI hK 10 hL0 rfl hl.1 rfl rfl (Nat.le_of_ble_eq_true rfl) dL_changes_182 ⟨Nat.le_of_ble_eq_true rfl, Nat.le_of_ble_eq_true rfl⟩) hI (fun M H locs hp hI => ?_)
    have hcg := chg_up f (nI ja) hH hq
    generalize s_X10_up f q h (nI ja) = R at hcg hp ⊢
    obtain ⟨hn1, hn2, hF⟩ := hp
    have hn4 := hL4.fr hF (fun q h1 h2 hq => by omega)
    have hn0 := hL0.fr hF (fun q h1 h2 hq => by omega)
    have hn3 := hL3.fr hF (fun q h1 h2 hq => by omega)
    refine lv_if_lt (tgt := 192) hx hb dL_changes_185 (by decide) (fun h9 => ?_) (fun h9 => ?_)
    · refine lv_iconst (v := 0) hx hb dL_changes_192 (by decide) ?_
      refine W.widen (k := 8) (n := 194) (Nat.le_of_ble_eq_true rfl) (Nat.le_of_ble_eq_true rfl) ?_
      exact q_zret hx hb hret rfl hlk hN hI ⟨R.1, f, R.2.1, R.2.2, i, rs, congrArg (fun z => some (Value.int z)) (dec_neg h9), hcg, rfl, hn0, hn1, hn2, hn3, hn4, qFr.rf.tr hF (fun q hq => by omega), Nat.le_refl _⟩ dL_changes_193
    · refine lv_iconst (v := 1) hx hb dL_changes_188 (by decide) ?_
      refine lv_goto (tgt := 193) hx hb dL_changes_189 (by decide) ?_
      refine W.widen (k := 8) (n := 194) (Nat.le_of_ble_eq_true rfl) (Nat.le_of_ble_eq_true rfl) ?_
      exact q_zret hx hb hret rfl hlk hN hI ⟨R.1, f, R.2.1, R.2.2, i, rs, congrArg (fun z => some (Value.int z)) (dec_pos h9), hcg, rfl, hn0, hn1, hn2, hn3, hn4, qFr.rf.tr hF (fun q hq => by omega), Nat.le_refl _⟩ dL_changes_193
  by_cases h12 : w = 12
  · refine lv_tableIn (off := 145) (tgt := 180) hx hb dL_changes_35 (by rw [h12]; decide) (by rw [h12]; decide) (by rw [h12]; decide) (by decide) ?_
    refine lv_aload_n hx hb dL_changes_180 rfl (lv_at hl 2 rfl) ?_
    refine lv_iload_n hx hb dL_changes_181 rfl (lv_at hl 1 rfl) ?_
    refine q_goP (q_runV (As := [.int (nI ja)]) (rest := []) hx hb hml hown hg (c_X10_up l D cs hL0 hL1 hL2 (nI ja)) v_X10_up wl_L_138 rfl rfl ⟨Nat.le_of_ble_eq_true rfl, Nat.le_of_ble_eq_true rfl⟩ hI hK 10 hL0 rfl hl.1 rfl rfl (Nat.le_of_ble_eq_true rfl) dL_changes_182 ⟨Nat.le_of_ble_eq_true rfl, Nat.le_of_ble_eq_true rfl⟩) hI (fun M H locs hp hI => ?_)
    have hcg := chg_up f (nI ja) hH hq
    generalize s_X10_up f q h (nI ja) = R at hcg hp ⊢
    obtain ⟨hn1, hn2, hF⟩ := hp
    have hn4 := hL4.fr hF (fun q h1 h2 hq => by omega)
    have hn0 := hL0.fr hF (fun q h1 h2 hq => by omega)
    have hn3 := hL3.fr hF (fun q h1 h2 hq => by omega)
    refine lv_if_lt (tgt := 192) hx hb dL_changes_185 (by decide) (fun h9 => ?_) (fun h9 => ?_)
    · refine lv_iconst (v := 0) hx hb dL_changes_192 (by decide) ?_
      refine W.widen (k := 8) (n := 194) (Nat.le_of_ble_eq_true rfl) (Nat.le_of_ble_eq_true rfl) ?_
      exact q_zret hx hb hret rfl hlk hN hI ⟨R.1, f, R.2.1, R.2.2, i, rs, congrArg (fun z => some (Value.int z)) (dec_neg h9), hcg, rfl, hn0, hn1, hn2, hn3, hn4, qFr.rf.tr hF (fun q hq => by omega), Nat.le_refl _⟩ dL_changes_193
    · refine lv_iconst (v := 1) hx hb dL_changes_188 (by decide) ?_
      refine lv_goto (tgt := 193) hx hb dL_changes_189 (by decide) ?_
      refine W.widen (k := 8) (n := 194) (Nat.le_of_ble_eq_true rfl) (Nat.le_of_ble_eq_true rfl) ?_
      exact q_zret hx hb hret rfl hlk hN hI ⟨R.1, f, R.2.1, R.2.2, i, rs, congrArg (fun z => some (Value.int z)) (dec_pos h9), hcg, rfl, hn0, hn1, hn2, hn3, hn4, qFr.rf.tr hF (fun q hq => by omega), Nat.le_refl _⟩ dL_changes_193
  by_cases h13 : w = 13
  · refine lv_tableIn (off := 159) (tgt := 194) hx hb dL_changes_35 (by rw [h13]; decide) (by rw [h13]; decide) (by rw [h13]; decide) (by decide) ?_
    refine lv_aload_n hx hb dL_changes_194 rfl (lv_at hl 2 rfl) ?_
    refine lv_iload_n hx hb dL_changes_195 rfl (lv_at hl 1 rfl) ?_
    refine lv_iload_n hx hb dL_changes_196 rfl (lv_at hl 3 rfl) ?_
    refine lv_bipush (v := 6) hx hb dL_changes_197 (by decide) ?_
    refine lv_ishr hx hb dL_changes_199 ?_
    refine lv_bipush (v := 102) hx hb dL_changes_200 (by decide) ?_
    refine j_go (j_runS (As := [.int (x >>> (6 &&& 31)), .int 102]) (rest := [.int (nI ja), .ref a]) hx hb hml hown hg (j_some l (x >>> (6 &&& 31)) 102 (by decide)) v_L_some wl_L_40 rfl rfl ⟨Nat.le_of_ble_eq_true rfl, Nat.le_of_ble_eq_true rfl⟩ qSt.tt trivial hl.1 rfl rfl (Nat.le_of_ble_eq_true rfl) dL_changes_202 ⟨Nat.le_of_ble_eq_true rfl, Nat.le_of_ble_eq_true rfl⟩) ?_
    refine q_goP (q_runV (As := [.int (nI ja), .int (s_some (x >>> (6 &&& 31)) 102)]) (rest := []) hx hb hml hown hg (c_X10_weigh l D cs hL0 hL1 hL2 hL4 (nI ja) (s_some (x >>> (6 &&& 31)) 102)) v_X10_weigh wl_L_141 rfl rfl ⟨Nat.le_of_ble_eq_true rfl, Nat.le_of_ble_eq_true rfl⟩ hI hK 10 hL0 rfl hl.1 rfl rfl (Nat.le_of_ble_eq_true rfl) dL_changes_205 ⟨Nat.le_of_ble_eq_true rfl, Nat.le_of_ble_eq_true rfl⟩) hI (fun M H locs hp hI => ?_)
    have hcg := chg_weigh f rs (nI ja) (s_some (x >>> (6 &&& 31)) 102) hH hq
    generalize s_X10_weigh f q h rs (nI ja) (s_some (x >>> (6 &&& 31)) 102) = R at hcg hp ⊢
    obtain ⟨hn1, hn2, hn4, hF⟩ := hp
    have hn0 := hL0.fr hF (fun q h1 h2 hq => by omega)
    have hn3 := hL3.fr hF (fun q h1 h2 hq => by omega)
    refine lv_if_lt (tgt := 215) hx hb dL_changes_208 (by decide) (fun h9 => ?_) (fun h9 => ?_)
    · refine lv_iconst (v := 0) hx hb dL_changes_215 (by decide) ?_
      refine W.widen (k := 8) (n := 194) (Nat.le_of_ble_eq_true rfl) (Nat.le_of_ble_eq_true rfl) ?_
      exact q_zret hx hb hret rfl hlk hN hI ⟨R.1, f, R.2.1, R.2.2.1, i, R.2.2.2, congrArg (fun z => some (Value.int z)) (dec_neg h9), hcg, rfl, hn0, hn1, hn2, hn3, hn4, qFr.rf.tr hF (fun q hq => by omega), Nat.le_refl _⟩ dL_changes_216
    · refine lv_iconst (v := 1) hx hb dL_changes_211 (by decide) ?_
      refine lv_goto (tgt := 216) hx hb dL_changes_212 (by decide) ?_
      refine W.widen (k := 8) (n := 194) (Nat.le_of_ble_eq_true rfl) (Nat.le_of_ble_eq_true rfl) ?_
      exact q_zret hx hb hret rfl hlk hN hI ⟨R.1, f, R.2.1, R.2.2.1, i, R.2.2.2, congrArg (fun z => some (Value.int z)) (dec_pos h9), hcg, rfl, hn0, hn1, hn2, hn3, hn4, qFr.rf.tr hF (fun q hq => by omega), Nat.le_refl _⟩ dL_changes_216
  by_cases h14 : w = 14
  · refine lv_tableIn (off := 182) (tgt := 217) hx hb dL_changes_35 (by rw [h14]; decide) (by rw [h14]; decide) (by rw [h14]; decide) (by decide) ?_
    refine lv_aload_n hx hb dL_changes_217 rfl (lv_at hl 2 rfl) ?_
    refine lv_iload_n hx hb dL_changes_218 rfl (lv_at hl 1 rfl) ?_
    refine q_goP (q_runV (As := [.int (nI ja)]) (rest := []) hx hb hml hown hg (c_X10_sledge l D cs hL0 hL1 hL2 hL4 (nI ja)) v_X10_sledge wl_L_53 rfl rfl ⟨Nat.le_of_ble_eq_true rfl, Nat.le_of_ble_eq_true rfl⟩ hI hK 10 hL0 rfl hl.1 rfl rfl (Nat.le_of_ble_eq_true rfl) dL_changes_219 ⟨Nat.le_of_ble_eq_true rfl, Nat.le_of_ble_eq_true rfl⟩) hI (fun M H locs hp hI => ?_)
    have hcg := chg_sledge f rs (nI ja) hH hq
    generalize s_X10_sledge f q h rs (nI ja) = R at hcg hp ⊢
    obtain ⟨hn1, hn2, hn4, hF⟩ := hp
    have hn0 := hL0.fr hF (fun q h1 h2 hq => by omega)
    have hn3 := hL3.fr hF (fun q h1 h2 hq => by omega)
    refine lv_if_lt (tgt := 229) hx hb dL_changes_222 (by decide) (fun h9 => ?_) (fun h9 => ?_)
    · refine lv_iconst (v := 0) hx hb dL_changes_229 (by decide) ?_
      refine W.widen (k := 8) (n := 194) (Nat.le_of_ble_eq_true rfl) (Nat.le_of_ble_eq_true rfl) ?_
      exact q_zret hx hb hret rfl hlk hN hI ⟨R.1, f, R.2.1, R.2.2.1, i, R.2.2.2, congrArg (fun z => some (Value.int z)) (dec_neg h9), hcg, rfl, hn0, hn1, hn2, hn3, hn4, qFr.rf.tr hF (fun q hq => by omega), Nat.le_refl _⟩ dL_changes_230
    · refine lv_iconst (v := 1) hx hb dL_changes_225 (by decide) ?_
      refine lv_goto (tgt := 230) hx hb dL_changes_226 (by decide) ?_
      refine W.widen (k := 8) (n := 194) (Nat.le_of_ble_eq_true rfl) (Nat.le_of_ble_eq_true rfl) ?_
      exact q_zret hx hb hret rfl hlk hN hI ⟨R.1, f, R.2.1, R.2.2.1, i, R.2.2.2, congrArg (fun z => some (Value.int z)) (dec_pos h9), hcg, rfl, hn0, hn1, hn2, hn3, hn4, qFr.rf.tr hF (fun q hq => by omega), Nat.le_refl _⟩ dL_changes_230
  by_cases h15 : w = 15
  · refine lv_tableIn (off := 196) (tgt := 231) hx hb dL_changes_35 (by rw [h15]; decide) (by rw [h15]; decide) (by rw [h15]; decide) (by decide) ?_
    refine lv_aload_n hx hb dL_changes_231 rfl (lv_at hl 2 rfl) ?_
    refine q_goP (q_runV (As := []) (rest := []) hx hb hml hown hg (c_X10_pull l D cs hL0 hL1 hL2 hL4) v_X10_pull wl_L_144 rfl rfl ⟨Nat.le_of_ble_eq_true rfl, Nat.le_of_ble_eq_true rfl⟩ hI hK 10 hL0 rfl hl.1 rfl rfl (Nat.le_of_ble_eq_true rfl) dL_changes_232 ⟨Nat.le_of_ble_eq_true rfl, Nat.le_of_ble_eq_true rfl⟩) hI (fun M H locs hp hI => ?_)
    have hcg := chg_pull f rs  hH hq
    generalize s_X10_pull f q h rs = R at hcg hp ⊢
    obtain ⟨hn1, hn2, hn4, hF⟩ := hp
    have hn0 := hL0.fr hF (fun q h1 h2 hq => by omega)
    have hn3 := hL3.fr hF (fun q h1 h2 hq => by omega)
    refine lv_if_lt (tgt := 242) hx hb dL_changes_235 (by decide) (fun h9 => ?_) (fun h9 => ?_)
    · refine lv_iconst (v := 0) hx hb dL_changes_242 (by decide) ?_
      refine W.widen (k := 8) (n := 194) (Nat.le_of_ble_eq_true rfl) (Nat.le_of_ble_eq_true rfl) ?_
      exact q_zret hx hb hret rfl hlk hN hI ⟨R.1, f, R.2.1, R.2.2.1, i, R.2.2.2, congrArg (fun z => some (Value.int z)) (dec_neg h9), hcg, rfl, hn0, hn1, hn2, hn3, hn4, qFr.rf.tr hF (fun q hq => by omega), Nat.le_refl _⟩ dL_changes_243
    · refine lv_iconst (v := 1) hx hb dL_changes_238 (by decide) ?_
      refine lv_goto (tgt := 243) hx hb dL_changes_239 (by decide) ?_
      refine W.widen (k := 8) (n := 194) (Nat.le_of_ble_eq_true rfl) (Nat.le_of_ble_eq_true rfl) ?_
      exact q_zret hx hb hret rfl hlk hN hI ⟨R.1, f, R.2.1, R.2.2.1, i, R.2.2.2, congrArg (fun z => some (Value.int z)) (dec_pos h9), hcg, rfl, hn0, hn1, hn2, hn3, hn4, qFr.rf.tr hF (fun q hq => by omega), Nat.le_refl _⟩ dL_changes_243
  by_cases h16 : w = 16
  · refine lv_tableIn (off := 196) (tgt := 231) hx hb dL_changes_35 (by rw [h16]; decide) (by rw [h16]; decide) (by rw [h16]; decide) (by decide) ?_
    refine lv_aload_n hx hb dL_changes_231 rfl (lv_at hl 2 rfl) ?_
    refine q_goP (q_runV (As := []) (rest := []) hx hb hml hown hg (c_X10_pull l D cs hL0 hL1 hL2 hL4) v_X10_pull wl_L_144 rfl rfl ⟨Nat.le_of_ble_eq_true rfl, Nat.le_of_ble_eq_true rfl⟩ hI hK 10 hL0 rfl hl.1 rfl rfl (Nat.le_of_ble_eq_true rfl) dL_changes_232 ⟨Nat.le_of_ble_eq_true rfl, Nat.le_of_ble_eq_true rfl⟩) hI (fun M H locs hp hI => ?_)
    have hcg := chg_pull f rs  hH hq
    generalize s_X10_pull f q h rs = R at hcg hp ⊢
    obtain ⟨hn1, hn2, hn4, hF⟩ := hp
    have hn0 := hL0.fr hF (fun q h1 h2 hq => by omega)
    have hn3 := hL3.fr hF (fun q h1 h2 hq => by omega)
    refine lv_if_lt (tgt := 242) hx hb dL_changes_235 (by decide) (fun h9 => ?_) (fun h9 => ?_)
    · refine lv_iconst (v := 0) hx hb dL_changes_242 (by decide) ?_
      refine W.widen (k := 8) (n := 194) (Nat.le_of_ble_eq_true rfl) (Nat.le_of_ble_eq_true rfl) ?_
      exact q_zret hx hb hret rfl hlk hN hI ⟨R.1, f, R.2.1, R.2.2.1, i, R.2.2.2, congrArg (fun z => some (Value.int z)) (dec_neg h9), hcg, rfl, hn0, hn1, hn2, hn3, hn4, qFr.rf.tr hF (fun q hq => by omega), Nat.le_refl _⟩ dL_changes_243
    · refine lv_iconst (v := 1) hx hb dL_changes_238 (by decide) ?_
      refine lv_goto (tgt := 243) hx hb dL_changes_239 (by decide) ?_
      refine W.widen (k := 8) (n := 194) (Nat.le_of_ble_eq_true rfl) (Nat.le_of_ble_eq_true rfl) ?_
      exact q_zret hx hb hret rfl hlk hN hI ⟨R.1, f, R.2.1, R.2.2.1, i, R.2.2.2, congrArg (fun z => some (Value.int z)) (dec_pos h9), hcg, rfl, hn0, hn1, hn2, hn3, hn4, qFr.rf.tr hF (fun q hq => by omega), Nat.le_refl _⟩ dL_changes_243
  refine lv_tableOut (tgt := 244) hx hb dL_changes_35 (q_tbl (n := 16) (by decide) (fun j hj => by
    have hj2 : j = 0 ∨ j = 1 ∨ j = 2 ∨ j = 3 ∨ j = 4 ∨ j = 5 ∨ j = 6 ∨ j = 7 ∨ j = 8 ∨ j = 9 ∨ j = 10 ∨ j = 11 ∨ j = 12 ∨ j = 13 ∨ j = 14 ∨ j = 15 ∨ j = 16 := by omega
    rcases hj2 with rfl | rfl | rfl | rfl | rfl | rfl | rfl | rfl | rfl | rfl | rfl | rfl | rfl | rfl | rfl | rfl | rfl
    · exact h0
    · exact h1
    · exact h2
    · exact h3
    · exact h4
    · exact h5
    · exact h6
    · exact h7
    · exact h8
    · exact h9
    · exact h10
    · exact h11
    · exact h12
    · exact h13
    · exact h14
    · exact h15
    · exact h16)) (by decide) ?_
  have hdga := dg_le ja
  have hdgb := dg_le jb
  refine lv_aload_n hx hb dL_changes_244 rfl (lv_at hl 2 rfl) ?_
  refine lv_iload_n hx hb dL_changes_245 rfl (lv_at hl 3 rfl) ?_
  refine lv_bipush (v := 6) hx hb dL_changes_246 (by decide) ?_
  refine lv_ishr hx hb dL_changes_248 ?_
  refine lv_iconst (v := 1) hx hb dL_changes_249 (by decide) ?_
  refine lv_iand hx hb dL_changes_250 ?_
  refine lv_if_ne (tgt := 285) hx hb dL_changes_251 (by decide) (fun h9 => ?_) (fun h9 => ?_)
  · refine q_new hx hb 1 hg in_J4 tyJ4_ok hown wx_cSB wx_inst wx_iniSB hK hI rfl [.null, .int 0, .int 0, .int 0] (fun j hj => by match j, hj with | 0, _ => rfl | 1, _ => rfl | 2, _ => rfl | 3, _ => rfl) (Nat.le_of_ble_eq_true rfl) (Nat.le_of_ble_eq_true rfl) dL_changes_285 (fun H hI => ?_)
    refine lv_dup hx hb dL_changes_288 rfl ?_
    refine q_go (f_runI (As := []) (rest := [.ref N, .ref a]) hx hb hml hown hg (c_J4_init l D cs (hI.dom hN hd) (K := N) (Nat.le_refl _) (by omega) (qUp_at _ _ _)) v_J4_init_da8c8 wl_L_149 rfl rfl ⟨Nat.le_of_ble_eq_true rfl, Nat.le_of_ble_eq_true rfl⟩ hI hK jW.sw (hI.jx hN hd hP).2.1 hl.1 rfl rfl (Nat.le_of_ble_eq_true rfl) dL_changes_289 ⟨Nat.le_of_ble_eq_true rfl, Nat.le_of_ble_eq_true rfl⟩) hI (fun r M N1 H locs hp hI => ?_)
    obtain ⟨rfl, hB, hF1, hle1⟩ := hp
    have hFM : qFr (qK0 N) M0 M := qFr.tr (F := qK0 N) (G := qK0 N) (fun q hq => qUp_ne (by omega)) hF1 (fun q hq => hq)
    have hNN : N ≤ N1 := by omega
    clear hF1 hle1
    have hB : qB cs N 0 ([] : List Int32).length M N1 N [] := by obtain ⟨v, n, f0, z1, z2, -, z3⟩ := hB; exact ⟨v, n, f0, z1, z2, Nat.zero_le _, z3⟩
    refine va_ldcS hx hb hown (hP.2.2 2 (by decide)).1 dL_changes_292 ?_
    refine q_go (f_runV (As := [.ref (cs (72 + 2))]) (rest := [.ref a]) hx hb hml hown hg (c_J4_appendS l D cs (hI.dom hN hd) (K := N) (T := jCt 2) (by simp only [List.length_append, ds_len, List.length_nil]; simp only [jl2, jl0, jl1, jl2, jl3, jl6]; omega) (jCt_fit 2 (by decide)) hB) v_J4_append_15ec4 wl_L_152 rfl rfl ⟨Nat.le_of_ble_eq_true rfl, Nat.le_of_ble_eq_true rfl⟩ hI hK jWS.sw ⟨(hI.jx hN hd hP).2.1, ((hI.jx hN hd hP).2.2 2 (by decide)).2⟩ (hI.rcB hK hB) hl.1 rfl rfl (Nat.le_of_ble_eq_true rfl) dL_changes_294 ⟨Nat.le_of_ble_eq_true rfl, Nat.le_of_ble_eq_true rfl⟩) hI (fun r M N2 H locs hp hI => ?_)
    obtain ⟨rfl, hB, hF1, hle1⟩ := hp
    have hFM := hFM.tr hF1 (fun q hq => hq)
    have hNN : N ≤ N2 := by omega
    clear hF1 hle1
    refine lv_iload_n hx hb dL_changes_297 rfl (lv_at hl 3 rfl) ?_
    refine lv_iconst (v := 4) hx hb dL_changes_298 (by decide) ?_
    refine lv_ishr hx hb dL_changes_299 ?_
    refine lv_bipush (v := 100) hx hb dL_changes_300 (by decide) ?_
    refine j_go (j_runS (As := [.int (x >>> (4 &&& 31)), .int 100]) (rest := [.ref N, .ref a]) hx hb hml hown hg (j_some l (x >>> (4 &&& 31)) 100 (by decide)) v_L_some wl_L_40 rfl rfl ⟨Nat.le_of_ble_eq_true rfl, Nat.le_of_ble_eq_true rfl⟩ qSt.tt trivial hl.1 rfl rfl (Nat.le_of_ble_eq_true rfl) dL_changes_302 ⟨Nat.le_of_ble_eq_true rfl, Nat.le_of_ble_eq_true rfl⟩) ?_
    obtain ⟨jc, hjc, ejc⟩ := some_nI (x >>> (4 &&& 31)) 100 (by omega) (by omega)
    rw [show (100 : Int32) = nI 100 from rfl, ejc]
    have hdgc := dg_le jc
    refine q_go (f_runV (As := [.int (nI jc)]) (rest := [.ref a]) hx hb hml hown hg (c_J4_appendI l D cs (hI.dom hN hd) (K := N) (x := jc) hjc (by simp only [List.length_append, ds_len, List.length_nil]; simp only [jl0, jl1, jl2, jl3, jl6]; omega) hB) v_J4_append_bf812 wl_L_155 rfl rfl ⟨Nat.le_of_ble_eq_true rfl, Nat.le_of_ble_eq_true rfl⟩ hI hK jW.sw (hI.jx hN hd hP).2.1 (hI.rcB hK hB) hl.1 rfl rfl (Nat.le_of_ble_eq_true rfl) dL_changes_305 ⟨Nat.le_of_ble_eq_true rfl, Nat.le_of_ble_eq_true rfl⟩) hI (fun r M N3 H locs hp hI => ?_)
    obtain ⟨rfl, hB, hF1, hle1⟩ := hp
    have hFM := hFM.tr hF1 (fun q hq => hq)
    have hNN : N ≤ N3 := by omega
    clear hF1 hle1
    refine va_ldcS hx hb hown (hP.2.2 3 (by decide)).1 dL_changes_308 ?_
    refine q_go (f_runV (As := [.ref (cs (72 + 3))]) (rest := [.ref a]) hx hb hml hown hg (c_J4_appendS l D cs (hI.dom hN hd) (K := N) (T := jCt 3) (by simp only [List.length_append, ds_len, List.length_nil]; simp only [jl3, jl0, jl1, jl2, jl3, jl6]; omega) (jCt_fit 3 (by decide)) hB) v_J4_append_15ec4 wl_L_152 rfl rfl ⟨Nat.le_of_ble_eq_true rfl, Nat.le_of_ble_eq_true rfl⟩ hI hK jWS.sw ⟨(hI.jx hN hd hP).2.1, ((hI.jx hN hd hP).2.2 3 (by decide)).2⟩ (hI.rcB hK hB) hl.1 rfl rfl (Nat.le_of_ble_eq_true rfl) dL_changes_310 ⟨Nat.le_of_ble_eq_true rfl, Nat.le_of_ble_eq_true rfl⟩) hI (fun r M N4 H locs hp hI => ?_)
    obtain ⟨rfl, hB, hF1, hle1⟩ := hp
    have hFM := hFM.tr hF1 (fun q hq => hq)
    have hNN : N ≤ N4 := by omega
    clear hF1 hle1
    refine q_go (f_runV (As := []) (rest := [.ref a]) hx hb hml hown hg (c_J4_toString l D cs (hI.dom hN hd) (K := N) hB) v_J4_toString_0e30d wl_L_160 rfl rfl ⟨Nat.le_of_ble_eq_true rfl, Nat.le_of_ble_eq_true rfl⟩ hI hK jW.sw (hI.jx hN hd hP).2.1 (hI.rcB hK hB) hl.1 rfl rfl (Nat.le_of_ble_eq_true rfl) dL_changes_313 ⟨Nat.le_of_ble_eq_true rfl, Nat.le_of_ble_eq_true rfl⟩) hI (fun r M N5 H locs hp hI => ?_)
    obtain ⟨aS, rfl, hKa, ⟨tS, fS, hKt, hMa, hMt, hfS⟩, hF1, hle1⟩ := hp
    have hFM := hFM.tr hF1 (fun q hq => hq)
    have hNN : N ≤ N5 := by omega
    clear hF1 hle1 hB
    have hSt : zStr (qA (qCut N M) N5) aS tS (((([] : List Int32) ++ jCt 2) ++ ds jc) ++ jCt 3) s H := hI.str hg hK hMa hMt hfS (fun z => z.elim (fun z => z (if_neg (by omega))) (fun z => absurd (hI.lt hMa) (by omega))) (fun z => z.elim (fun z => z (if_neg (by omega))) (fun z => absurd (hI.lt hMt) (by omega)))
    have hI := hI.cut N
    have hM2 : ∀ z, z < N → qCut N M z = M0 z := fun z hz => (qCut_lt hz).trans (hFM z (by omega))
    generalize qCut N M = M at hI hM2 hSt
    replace hL0 := hL0.same (fun z h1 h2 => hM2 z (by omega))
    replace hL1 := hL1.same (fun z h1 h2 => hM2 z (by omega))
    replace hL2 := hL2.same (fun z h1 h2 => hM2 z (by omega))
    replace hL3 := hL3.same (fun z h1 h2 => hM2 z (by omega))
    replace hL4 := hL4.same (fun z h1 h2 => hM2 z (by omega))
    generalize hLL : (((([] : List Int32) ++ jCt 2) ++ ds jc) ++ jCt 3) = LL at hSt
    have hL31 : LL.length < 2 ^ 31 := by rw [← hLL]; simp only [List.length_append, ds_len, List.length_nil]; simp only [jl0, jl1, jl2, jl3, jl6]; omega
    clear hMa hMt hfS hLL
    refine q_goP (q_runSP (As := [.ref a, .ref aS]) (rest := []) hx hb hml hown hg (c_L_reads l D cs (hI.dom hN hd) hL31 hL0 hL1 hL2 hL3 hL4) v_L_reads wl_L_168 rfl rfl ⟨Nat.le_of_ble_eq_true rfl, Nat.le_of_ble_eq_true rfl⟩ hI hK (hI.jx hN hd hP).1 (fun U V H hv h => zStr.moved hv h) hSt hl.1 rfl rfl (Nat.le_of_ble_eq_true rfl) dL_changes_316 ⟨Nat.le_of_ble_eq_true rfl, Nat.le_of_ble_eq_true rfl⟩) hI (fun M1 H locs hp hI => ?_)
    have hcg := chg_reads LL f i rs hH hq
    generalize s_L_reads LL f q h i rs = R at hcg hp ⊢
    obtain ⟨hn0, hn1, hn2, hn3, hn4, hF⟩ := hp
    have hFF : qFr (chF a N) M0 M1 := fun z hz => (hF z (by omega)).trans (hM2 z (by omega))
    refine lv_if_lt (tgt := 326) hx hb dL_changes_319 (by decide) (fun h9 => ?_) (fun h9 => ?_)
    · refine lv_iconst (v := 0) hx hb dL_changes_326 (by decide) ?_
      refine W.widen (k := 8) (n := 194) (Nat.le_of_ble_eq_true rfl) (Nat.le_of_ble_eq_true rfl) ?_
      exact q_zret hx hb hret rfl hlk hN hI ⟨R.1, R.2.1, R.2.2.1, R.2.2.2.1, R.2.2.2.2.1, R.2.2.2.2.2, congrArg (fun z => some (Value.int z)) (dec_neg h9), hcg.1, hcg.2, hn0, hn1, hn2, hn3, hn4, hFF, hNN⟩ dL_changes_327
    · refine lv_iconst (v := 1) hx hb dL_changes_322 (by decide) ?_
      refine lv_goto (tgt := 327) hx hb dL_changes_323 (by decide) ?_
      refine W.widen (k := 8) (n := 194) (Nat.le_of_ble_eq_true rfl) (Nat.le_of_ble_eq_true rfl) ?_
      exact q_zret hx hb hret rfl hlk hN hI ⟨R.1, R.2.1, R.2.2.1, R.2.2.2.1, R.2.2.2.2.1, R.2.2.2.2.2, congrArg (fun z => some (Value.int z)) (dec_pos h9), hcg.1, hcg.2, hn0, hn1, hn2, hn3, hn4, hFF, hNN⟩ dL_changes_327
  · refine q_new hx hb 1 hg in_J4 tyJ4_ok hown wx_cSB wx_inst wx_iniSB hK hI rfl [.null, .int 0, .int 0, .int 0] (fun j hj => by match j, hj with | 0, _ => rfl | 1, _ => rfl | 2, _ => rfl | 3, _ => rfl) (Nat.le_of_ble_eq_true rfl) (Nat.le_of_ble_eq_true rfl) dL_changes_254 (fun H hI => ?_)
    refine lv_dup hx hb dL_changes_257 rfl ?_
    refine q_go (f_runI (As := []) (rest := [.ref N, .ref a]) hx hb hml hown hg (c_J4_init l D cs (hI.dom hN hd) (K := N) (Nat.le_refl _) (by omega) (qUp_at _ _ _)) v_J4_init_da8c8 wl_L_149 rfl rfl ⟨Nat.le_of_ble_eq_true rfl, Nat.le_of_ble_eq_true rfl⟩ hI hK jW.sw (hI.jx hN hd hP).2.1 hl.1 rfl rfl (Nat.le_of_ble_eq_true rfl) dL_changes_258 ⟨Nat.le_of_ble_eq_true rfl, Nat.le_of_ble_eq_true rfl⟩) hI (fun r M N1 H locs hp hI => ?_)
    obtain ⟨rfl, hB, hF1, hle1⟩ := hp
    have hFM : qFr (qK0 N) M0 M := qFr.tr (F := qK0 N) (G := qK0 N) (fun q hq => qUp_ne (by omega)) hF1 (fun q hq => hq)
    have hNN : N ≤ N1 := by omega
    clear hF1 hle1
    have hB : qB cs N 0 ([] : List Int32).length M N1 N [] := by obtain ⟨v, n, f0, z1, z2, -, z3⟩ := hB; exact ⟨v, n, f0, z1, z2, Nat.zero_le _, z3⟩
    refine va_ldcS hx hb hown (hP.2.2 0 (by decide)).1 dL_changes_261 ?_
    refine q_go (f_runV (As := [.ref (cs (72 + 0))]) (rest := [.ref a]) hx hb hml hown hg (c_J4_appendS l D cs (hI.dom hN hd) (K := N) (T := jCt 0) (by simp only [List.length_append, ds_len, List.length_nil]; simp only [jl0, jl0, jl1, jl2, jl3, jl6]; omega) (jCt_fit 0 (by decide)) hB) v_J4_append_15ec4 wl_L_152 rfl rfl ⟨Nat.le_of_ble_eq_true rfl, Nat.le_of_ble_eq_true rfl⟩ hI hK jWS.sw ⟨(hI.jx hN hd hP).2.1, ((hI.jx hN hd hP).2.2 0 (by decide)).2⟩ (hI.rcB hK hB) hl.1 rfl rfl (Nat.le_of_ble_eq_true rfl) dL_changes_263 ⟨Nat.le_of_ble_eq_true rfl, Nat.le_of_ble_eq_true rfl⟩) hI (fun r M N2 H locs hp hI => ?_)
    obtain ⟨rfl, hB, hF1, hle1⟩ := hp
    have hFM := hFM.tr hF1 (fun q hq => hq)
    have hNN : N ≤ N2 := by omega
    clear hF1 hle1
    refine lv_iload_n hx hb dL_changes_266 rfl (lv_at hl 1 rfl) ?_
    refine q_go (f_runV (As := [.int (nI ja)]) (rest := [.ref a]) hx hb hml hown hg (c_J4_appendI l D cs (hI.dom hN hd) (K := N) (x := ja) (by omega) (by simp only [List.length_append, ds_len, List.length_nil]; simp only [jl0, jl1, jl2, jl3, jl6]; omega) hB) v_J4_append_bf812 wl_L_155 rfl rfl ⟨Nat.le_of_ble_eq_true rfl, Nat.le_of_ble_eq_true rfl⟩ hI hK jW.sw (hI.jx hN hd hP).2.1 (hI.rcB hK hB) hl.1 rfl rfl (Nat.le_of_ble_eq_true rfl) dL_changes_267 ⟨Nat.le_of_ble_eq_true rfl, Nat.le_of_ble_eq_true rfl⟩) hI (fun r M N3 H locs hp hI => ?_)
    obtain ⟨rfl, hB, hF1, hle1⟩ := hp
    have hFM := hFM.tr hF1 (fun q hq => hq)
    have hNN : N ≤ N3 := by omega
    clear hF1 hle1
    refine va_ldcS hx hb hown (hP.2.2 1 (by decide)).1 dL_changes_270 ?_
    refine q_go (f_runV (As := [.ref (cs (72 + 1))]) (rest := [.ref a]) hx hb hml hown hg (c_J4_appendS l D cs (hI.dom hN hd) (K := N) (T := jCt 1) (by simp only [List.length_append, ds_len, List.length_nil]; simp only [jl1, jl0, jl1, jl2, jl3, jl6]; omega) (jCt_fit 1 (by decide)) hB) v_J4_append_15ec4 wl_L_152 rfl rfl ⟨Nat.le_of_ble_eq_true rfl, Nat.le_of_ble_eq_true rfl⟩ hI hK jWS.sw ⟨(hI.jx hN hd hP).2.1, ((hI.jx hN hd hP).2.2 1 (by decide)).2⟩ (hI.rcB hK hB) hl.1 rfl rfl (Nat.le_of_ble_eq_true rfl) dL_changes_272 ⟨Nat.le_of_ble_eq_true rfl, Nat.le_of_ble_eq_true rfl⟩) hI (fun r M N4 H locs hp hI => ?_)
    obtain ⟨rfl, hB, hF1, hle1⟩ := hp
    have hFM := hFM.tr hF1 (fun q hq => hq)
    have hNN : N ≤ N4 := by omega
    clear hF1 hle1
    refine lv_iload_n hx hb dL_changes_275 rfl (lv_at hl 0 rfl) ?_
    refine q_go (f_runV (As := [.int (nI jb)]) (rest := [.ref a]) hx hb hml hown hg (c_J4_appendI l D cs (hI.dom hN hd) (K := N) (x := jb) (by omega) (by simp only [List.length_append, ds_len, List.length_nil]; simp only [jl0, jl1, jl2, jl3, jl6]; omega) hB) v_J4_append_bf812 wl_L_155 rfl rfl ⟨Nat.le_of_ble_eq_true rfl, Nat.le_of_ble_eq_true rfl⟩ hI hK jW.sw (hI.jx hN hd hP).2.1 (hI.rcB hK hB) hl.1 rfl rfl (Nat.le_of_ble_eq_true rfl) dL_changes_276 ⟨Nat.le_of_ble_eq_true rfl, Nat.le_of_ble_eq_true rfl⟩) hI (fun r M N5 H locs hp hI => ?_)
    obtain ⟨rfl, hB, hF1, hle1⟩ := hp
    have hFM := hFM.tr hF1 (fun q hq => hq)
    have hNN : N ≤ N5 := by omega
    clear hF1 hle1
    refine q_go (f_runV (As := []) (rest := [.ref a]) hx hb hml hown hg (c_J4_toString l D cs (hI.dom hN hd) (K := N) hB) v_J4_toString_0e30d wl_L_160 rfl rfl ⟨Nat.le_of_ble_eq_true rfl, Nat.le_of_ble_eq_true rfl⟩ hI hK jW.sw (hI.jx hN hd hP).2.1 (hI.rcB hK hB) hl.1 rfl rfl (Nat.le_of_ble_eq_true rfl) dL_changes_279 ⟨Nat.le_of_ble_eq_true rfl, Nat.le_of_ble_eq_true rfl⟩) hI (fun r M N6 H locs hp hI => ?_)
    obtain ⟨aS, rfl, hKa, ⟨tS, fS, hKt, hMa, hMt, hfS⟩, hF1, hle1⟩ := hp
    have hFM := hFM.tr hF1 (fun q hq => hq)
    have hNN : N ≤ N6 := by omega
    clear hF1 hle1 hB
    have hSt : zStr (qA (qCut N M) N6) aS tS ((((([] : List Int32) ++ jCt 0) ++ ds ja) ++ jCt 1) ++ ds jb) s H := hI.str hg hK hMa hMt hfS (fun z => z.elim (fun z => z (if_neg (by omega))) (fun z => absurd (hI.lt hMa) (by omega))) (fun z => z.elim (fun z => z (if_neg (by omega))) (fun z => absurd (hI.lt hMt) (by omega)))
    have hI := hI.cut N
    have hM2 : ∀ z, z < N → qCut N M z = M0 z := fun z hz => (qCut_lt hz).trans (hFM z (by omega))
    generalize qCut N M = M at hI hM2 hSt
    replace hL0 := hL0.same (fun z h1 h2 => hM2 z (by omega))
    replace hL1 := hL1.same (fun z h1 h2 => hM2 z (by omega))
    replace hL2 := hL2.same (fun z h1 h2 => hM2 z (by omega))
    replace hL3 := hL3.same (fun z h1 h2 => hM2 z (by omega))
    replace hL4 := hL4.same (fun z h1 h2 => hM2 z (by omega))
    refine lv_goto (tgt := 316) hx hb dL_changes_282 (by decide) ?_
    generalize hLL : ((((([] : List Int32) ++ jCt 0) ++ ds ja) ++ jCt 1) ++ ds jb) = LL at hSt
    have hL31 : LL.length < 2 ^ 31 := by rw [← hLL]; simp only [List.length_append, ds_len, List.length_nil]; simp only [jl0, jl1, jl2, jl3, jl6]; omega
    clear hMa hMt hfS hLL
    refine q_goP (q_runSP (As := [.ref a, .ref aS]) (rest := []) hx hb hml hown hg (c_L_reads l D cs (hI.dom hN hd) hL31 hL0 hL1 hL2 hL3 hL4) v_L_reads wl_L_168 rfl rfl ⟨Nat.le_of_ble_eq_true rfl, Nat.le_of_ble_eq_true rfl⟩ hI hK (hI.jx hN hd hP).1 (fun U V H hv h => zStr.moved hv h) hSt hl.1 rfl rfl (Nat.le_of_ble_eq_true rfl) dL_changes_316 ⟨Nat.le_of_ble_eq_true rfl, Nat.le_of_ble_eq_true rfl⟩) hI (fun M1 H locs hp hI => ?_)
    have hcg := chg_reads LL f i rs hH hq
    generalize s_L_reads LL f q h i rs = R at hcg hp ⊢
    obtain ⟨hn0, hn1, hn2, hn3, hn4, hF⟩ := hp
    have hFF : qFr (chF a N) M0 M1 := fun z hz => (hF z (by omega)).trans (hM2 z (by omega))
    refine lv_if_lt (tgt := 326) hx hb dL_changes_319 (by decide) (fun h9 => ?_) (fun h9 => ?_)
    · refine lv_iconst (v := 0) hx hb dL_changes_326 (by decide) ?_
      refine W.widen (k := 8) (n := 194) (Nat.le_of_ble_eq_true rfl) (Nat.le_of_ble_eq_true rfl) ?_
      exact q_zret hx hb hret rfl hlk hN hI ⟨R.1, R.2.1, R.2.2.1, R.2.2.2.1, R.2.2.2.2.1, R.2.2.2.2.2, congrArg (fun z => some (Value.int z)) (dec_neg h9), hcg.1, hcg.2, hn0, hn1, hn2, hn3, hn4, hFF, hNN⟩ dL_changes_327
    · refine lv_iconst (v := 1) hx hb dL_changes_322 (by decide) ?_
      refine lv_goto (tgt := 327) hx hb dL_changes_323 (by decide) ?_
      refine W.widen (k := 8) (n := 194) (Nat.le_of_ble_eq_true rfl) (Nat.le_of_ble_eq_true rfl) ?_
      exact q_zret hx hb hret rfl hlk hN hI ⟨R.1, R.2.1, R.2.2.1, R.2.2.2.1, R.2.2.2.2.1, R.2.2.2.2.2, congrArg (fun z => some (Value.int z)) (dec_pos h9), hcg.1, hcg.2, hn0, hn1, hn2, hn3, hn4, hFF, hNN⟩ dL_changes_327
