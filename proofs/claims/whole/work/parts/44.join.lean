/-! KeyCurveModel: the tail of join (own rows). -/
theorem d_Mo_join_0 : decode b_Mo_join 0 = .ok (.aload_n 0, 1) := by decide +kernel
theorem d_Mo_join_1 : decode b_Mo_join 1 = .ok (.getfield 118, 3) := by decide +kernel
theorem d_Mo_join_4 : decode b_Mo_join 4 = .ok (.ifCond .eq 30, 3) := by decide +kernel
theorem d_Mo_join_7 : decode b_Mo_join 7 = .ok (.iload_n 3, 1) := by decide +kernel
theorem d_Mo_join_8 : decode b_Mo_join 8 = .ok (.ifCond .eq 4, 3) := by decide +kernel
theorem d_Mo_join_11 : decode b_Mo_join 11 = .ok (.return_, 1) := by decide +kernel
theorem d_Mo_join_12 : decode b_Mo_join 12 = .ok (.aload_n 0, 1) := by decide +kernel
theorem d_Mo_join_13 : decode b_Mo_join 13 = .ok (.getfield 52, 3) := by decide +kernel
theorem d_Mo_join_16 : decode b_Mo_join 16 = .ok (.aload_n 1, 1) := by decide +kernel
theorem d_Mo_join_17 : decode b_Mo_join 17 = .ok (.invokestatic 104, 3) := by decide +kernel
theorem d_Mo_join_20 : decode b_Mo_join 20 = .ok (.aload_n 0, 1) := by decide +kernel
theorem d_Mo_join_21 : decode b_Mo_join 21 = .ok (.getfield 55, 3) := by decide +kernel
theorem d_Mo_join_24 : decode b_Mo_join 24 = .ok (.aload_n 2, 1) := by decide +kernel
theorem d_Mo_join_25 : decode b_Mo_join 25 = .ok (.invokestatic 104, 3) := by decide +kernel
theorem d_Mo_join_28 : decode b_Mo_join 28 = .ok (.aload_n 0, 1) := by decide +kernel
theorem d_Mo_join_29 : decode b_Mo_join 29 = .ok (.iconst 0, 1) := by decide +kernel
theorem d_Mo_join_30 : decode b_Mo_join 30 = .ok (.putfield 118, 3) := by decide +kernel
theorem d_Mo_join_33 : decode b_Mo_join 33 = .ok (.return_, 1) := by decide +kernel
theorem d_Mo_join_34 : decode b_Mo_join 34 = .ok (.iload_n 3, 1) := by decide +kernel
theorem d_Mo_join_35 : decode b_Mo_join 35 = .ok (.ifCond .ne 14, 3) := by decide +kernel
theorem d_Mo_join_38 : decode b_Mo_join 38 = .ok (.aload_n 0, 1) := by decide +kernel
theorem d_Mo_join_39 : decode b_Mo_join 39 = .ok (.getfield 52, 3) := by decide +kernel
theorem d_Mo_join_42 : decode b_Mo_join 42 = .ok (.aload_n 1, 1) := by decide +kernel
theorem d_Mo_join_43 : decode b_Mo_join 43 = .ok (.invokestatic 93, 3) := by decide +kernel
theorem d_Mo_join_46 : decode b_Mo_join 46 = .ok (.ifCond .ne 7, 3) := by decide +kernel
theorem d_Mo_join_49 : decode b_Mo_join 49 = .ok (.iconst 1, 1) := by decide +kernel
theorem d_Mo_join_50 : decode b_Mo_join 50 = .ok (.goto 4, 3) := by decide +kernel
theorem d_Mo_join_53 : decode b_Mo_join 53 = .ok (.iconst 0, 1) := by decide +kernel
theorem d_Mo_join_54 : decode b_Mo_join 54 = .ok (.istore 4, 2) := by decide +kernel
theorem d_Mo_join_56 : decode b_Mo_join 56 = .ok (.iload 4, 2) := by decide +kernel
theorem d_Mo_join_58 : decode b_Mo_join 58 = .ok (.ifCond .eq 34, 3) := by decide +kernel
theorem d_Mo_join_61 : decode b_Mo_join 61 = .ok (.iload_n 3, 1) := by decide +kernel
theorem d_Mo_join_62 : decode b_Mo_join 62 = .ok (.ifCond .ne 14, 3) := by decide +kernel
theorem d_Mo_join_65 : decode b_Mo_join 65 = .ok (.aload_n 0, 1) := by decide +kernel
theorem d_Mo_join_66 : decode b_Mo_join 66 = .ok (.getfield 55, 3) := by decide +kernel
theorem d_Mo_join_69 : decode b_Mo_join 69 = .ok (.aload_n 2, 1) := by decide +kernel
theorem d_Mo_join_70 : decode b_Mo_join 70 = .ok (.invokestatic 93, 3) := by decide +kernel
theorem d_Mo_join_73 : decode b_Mo_join 73 = .ok (.ifCond .ne 13, 3) := by decide +kernel
theorem d_Mo_join_76 : decode b_Mo_join 76 = .ok (.aload_n 0, 1) := by decide +kernel
theorem d_Mo_join_77 : decode b_Mo_join 77 = .ok (.getfield 55, 3) := by decide +kernel
theorem d_Mo_join_80 : decode b_Mo_join 80 = .ok (.invokestatic 122, 3) := by decide +kernel
theorem d_Mo_join_83 : decode b_Mo_join 83 = .ok (.ifCond .eq 9, 3) := by decide +kernel
theorem d_Mo_join_86 : decode b_Mo_join 86 = .ok (.aload_n 0, 1) := by decide +kernel
theorem d_Mo_join_87 : decode b_Mo_join 87 = .ok (.iconst 1, 1) := by decide +kernel
theorem d_Mo_join_88 : decode b_Mo_join 88 = .ok (.putfield 118, 3) := by decide +kernel
theorem d_Mo_join_91 : decode b_Mo_join 91 = .ok (.return_, 1) := by decide +kernel
theorem d_Mo_join_92 : decode b_Mo_join 92 = .ok (.iload 4, 2) := by decide +kernel
theorem d_Mo_join_94 : decode b_Mo_join 94 = .ok (.ifCond .eq 67, 3) := by decide +kernel
theorem d_Mo_join_97 : decode b_Mo_join 97 = .ok (.aload_n 0, 1) := by decide +kernel
theorem d_Mo_join_98 : decode b_Mo_join 98 = .ok (.aload_n 0, 1) := by decide +kernel
theorem d_Mo_join_99 : decode b_Mo_join 99 = .ok (.getfield 43, 3) := by decide +kernel
theorem d_Mo_join_102 : decode b_Mo_join 102 = .ok (.aload_n 0, 1) := by decide +kernel
theorem d_Mo_join_103 : decode b_Mo_join 103 = .ok (.getfield 52, 3) := by decide +kernel
theorem d_Mo_join_106 : decode b_Mo_join 106 = .ok (.aload_n 0, 1) := by decide +kernel
theorem d_Mo_join_107 : decode b_Mo_join 107 = .ok (.getfield 52, 3) := by decide +kernel
theorem d_Mo_join_110 : decode b_Mo_join 110 = .ok (.invokevirtual 125, 3) := by decide +kernel
theorem d_Mo_join_113 : decode b_Mo_join 113 = .ok (.aload_n 0, 1) := by decide +kernel
theorem d_Mo_join_114 : decode b_Mo_join 114 = .ok (.getfield 46, 3) := by decide +kernel
theorem d_Mo_join_117 : decode b_Mo_join 117 = .ok (.aload_n 0, 1) := by decide +kernel
theorem d_Mo_join_118 : decode b_Mo_join 118 = .ok (.getfield 43, 3) := by decide +kernel
theorem d_Mo_join_121 : decode b_Mo_join 121 = .ok (.aload_n 0, 1) := by decide +kernel
theorem d_Mo_join_122 : decode b_Mo_join 122 = .ok (.getfield 43, 3) := by decide +kernel
theorem d_Mo_join_125 : decode b_Mo_join 125 = .ok (.invokestatic 129, 3) := by decide +kernel
theorem d_Mo_join_128 : decode b_Mo_join 128 = .ok (.aload_n 0, 1) := by decide +kernel
theorem d_Mo_join_129 : decode b_Mo_join 129 = .ok (.getfield 43, 3) := by decide +kernel
theorem d_Mo_join_132 : decode b_Mo_join 132 = .ok (.aload_n 0, 1) := by decide +kernel
theorem d_Mo_join_133 : decode b_Mo_join 133 = .ok (.getfield 43, 3) := by decide +kernel
theorem d_Mo_join_136 : decode b_Mo_join 136 = .ok (.aload_n 0, 1) := by decide +kernel
theorem d_Mo_join_137 : decode b_Mo_join 137 = .ok (.getfield 46, 3) := by decide +kernel
theorem d_Mo_join_140 : decode b_Mo_join 140 = .ok (.invokestatic 129, 3) := by decide +kernel
theorem d_Mo_join_143 : decode b_Mo_join 143 = .ok (.aload_n 0, 1) := by decide +kernel
theorem d_Mo_join_144 : decode b_Mo_join 144 = .ok (.getfield 46, 3) := by decide +kernel
theorem d_Mo_join_147 : decode b_Mo_join 147 = .ok (.aload_n 0, 1) := by decide +kernel
theorem d_Mo_join_148 : decode b_Mo_join 148 = .ok (.getfield 55, 3) := by decide +kernel
theorem d_Mo_join_151 : decode b_Mo_join 151 = .ok (.aload_n 0, 1) := by decide +kernel
theorem d_Mo_join_152 : decode b_Mo_join 152 = .ok (.getfield 55, 3) := by decide +kernel
theorem d_Mo_join_155 : decode b_Mo_join 155 = .ok (.invokestatic 129, 3) := by decide +kernel
theorem d_Mo_join_158 : decode b_Mo_join 158 = .ok (.goto 27, 3) := by decide +kernel
theorem d_Mo_join_161 : decode b_Mo_join 161 = .ok (.aload_n 0, 1) := by decide +kernel
theorem d_Mo_join_162 : decode b_Mo_join 162 = .ok (.getfield 43, 3) := by decide +kernel
theorem d_Mo_join_165 : decode b_Mo_join 165 = .ok (.aload_n 2, 1) := by decide +kernel
theorem d_Mo_join_166 : decode b_Mo_join 166 = .ok (.aload_n 0, 1) := by decide +kernel
theorem d_Mo_join_167 : decode b_Mo_join 167 = .ok (.getfield 55, 3) := by decide +kernel
theorem d_Mo_join_170 : decode b_Mo_join 170 = .ok (.invokestatic 132, 3) := by decide +kernel
theorem d_Mo_join_173 : decode b_Mo_join 173 = .ok (.aload_n 0, 1) := by decide +kernel
theorem d_Mo_join_174 : decode b_Mo_join 174 = .ok (.getfield 46, 3) := by decide +kernel
theorem d_Mo_join_177 : decode b_Mo_join 177 = .ok (.aload_n 1, 1) := by decide +kernel
theorem d_Mo_join_178 : decode b_Mo_join 178 = .ok (.aload_n 0, 1) := by decide +kernel
theorem d_Mo_join_179 : decode b_Mo_join 179 = .ok (.getfield 52, 3) := by decide +kernel
theorem d_Mo_join_182 : decode b_Mo_join 182 = .ok (.invokestatic 132, 3) := by decide +kernel
theorem d_Mo_join_185 : decode b_Mo_join 185 = .ok (.aload_n 0, 1) := by decide +kernel
theorem d_Mo_join_186 : decode b_Mo_join 186 = .ok (.aload_n 0, 1) := by decide +kernel
theorem d_Mo_join_187 : decode b_Mo_join 187 = .ok (.getfield 49, 3) := by decide +kernel
theorem d_Mo_join_190 : decode b_Mo_join 190 = .ok (.aload_n 0, 1) := by decide +kernel
theorem d_Mo_join_191 : decode b_Mo_join 191 = .ok (.getfield 46, 3) := by decide +kernel
theorem d_Mo_join_194 : decode b_Mo_join 194 = .ok (.getstatic 90, 3) := by decide +kernel
theorem d_Mo_join_197 : decode b_Mo_join 197 = .ok (.invokevirtual 135, 3) := by decide +kernel
theorem d_Mo_join_200 : decode b_Mo_join 200 = .ok (.aload_n 0, 1) := by decide +kernel
theorem d_Mo_join_201 : decode b_Mo_join 201 = .ok (.aload_n 0, 1) := by decide +kernel
theorem d_Mo_join_202 : decode b_Mo_join 202 = .ok (.getfield 40, 3) := by decide +kernel
theorem d_Mo_join_205 : decode b_Mo_join 205 = .ok (.aload_n 0, 1) := by decide +kernel
theorem d_Mo_join_206 : decode b_Mo_join 206 = .ok (.getfield 43, 3) := by decide +kernel
theorem d_Mo_join_209 : decode b_Mo_join 209 = .ok (.aload_n 0, 1) := by decide +kernel
theorem d_Mo_join_210 : decode b_Mo_join 210 = .ok (.getfield 49, 3) := by decide +kernel
theorem d_Mo_join_213 : decode b_Mo_join 213 = .ok (.invokevirtual 125, 3) := by decide +kernel
theorem d_Mo_join_216 : decode b_Mo_join 216 = .ok (.aload_n 0, 1) := by decide +kernel
theorem d_Mo_join_217 : decode b_Mo_join 217 = .ok (.aload_n 0, 1) := by decide +kernel
theorem d_Mo_join_218 : decode b_Mo_join 218 = .ok (.getfield 43, 3) := by decide +kernel
theorem d_Mo_join_221 : decode b_Mo_join 221 = .ok (.aload_n 0, 1) := by decide +kernel
theorem d_Mo_join_222 : decode b_Mo_join 222 = .ok (.getfield 40, 3) := by decide +kernel
theorem d_Mo_join_225 : decode b_Mo_join 225 = .ok (.aload_n 0, 1) := by decide +kernel
theorem d_Mo_join_226 : decode b_Mo_join 226 = .ok (.getfield 40, 3) := by decide +kernel
theorem d_Mo_join_229 : decode b_Mo_join 229 = .ok (.invokevirtual 125, 3) := by decide +kernel
theorem d_Mo_join_232 : decode b_Mo_join 232 = .ok (.aload_n 0, 1) := by decide +kernel
theorem d_Mo_join_233 : decode b_Mo_join 233 = .ok (.getfield 43, 3) := by decide +kernel
theorem d_Mo_join_236 : decode b_Mo_join 236 = .ok (.aload_n 0, 1) := by decide +kernel
theorem d_Mo_join_237 : decode b_Mo_join 237 = .ok (.getfield 43, 3) := by decide +kernel
theorem d_Mo_join_240 : decode b_Mo_join 240 = .ok (.aload_n 0, 1) := by decide +kernel
theorem d_Mo_join_241 : decode b_Mo_join 241 = .ok (.getfield 52, 3) := by decide +kernel
theorem d_Mo_join_244 : decode b_Mo_join 244 = .ok (.invokestatic 132, 3) := by decide +kernel
theorem d_Mo_join_247 : decode b_Mo_join 247 = .ok (.aload_n 0, 1) := by decide +kernel
theorem d_Mo_join_248 : decode b_Mo_join 248 = .ok (.getfield 43, 3) := by decide +kernel
theorem d_Mo_join_251 : decode b_Mo_join 251 = .ok (.aload_n 0, 1) := by decide +kernel
theorem d_Mo_join_252 : decode b_Mo_join 252 = .ok (.getfield 43, 3) := by decide +kernel
theorem d_Mo_join_255 : decode b_Mo_join 255 = .ok (.iload 4, 2) := by decide +kernel
theorem d_Mo_join_257 : decode b_Mo_join 257 = .ok (.ifCond .eq 10, 3) := by decide +kernel
theorem d_Mo_join_260 : decode b_Mo_join 260 = .ok (.aload_n 0, 1) := by decide +kernel
theorem d_Mo_join_261 : decode b_Mo_join 261 = .ok (.getfield 52, 3) := by decide +kernel
theorem d_Mo_join_264 : decode b_Mo_join 264 = .ok (.goto 4, 3) := by decide +kernel
theorem d_Mo_join_267 : decode b_Mo_join 267 = .ok (.aload_n 1, 1) := by decide +kernel
theorem d_Mo_join_268 : decode b_Mo_join 268 = .ok (.invokestatic 132, 3) := by decide +kernel
theorem d_Mo_join_271 : decode b_Mo_join 271 = .ok (.aload_n 0, 1) := by decide +kernel
theorem d_Mo_join_272 : decode b_Mo_join 272 = .ok (.getfield 46, 3) := by decide +kernel
theorem d_Mo_join_275 : decode b_Mo_join 275 = .ok (.aload_n 0, 1) := by decide +kernel
theorem d_Mo_join_276 : decode b_Mo_join 276 = .ok (.getfield 52, 3) := by decide +kernel
theorem d_Mo_join_279 : decode b_Mo_join 279 = .ok (.aload_n 0, 1) := by decide +kernel
theorem d_Mo_join_280 : decode b_Mo_join 280 = .ok (.getfield 43, 3) := by decide +kernel
theorem d_Mo_join_283 : decode b_Mo_join 283 = .ok (.invokestatic 132, 3) := by decide +kernel
theorem d_Mo_join_286 : decode b_Mo_join 286 = .ok (.aload_n 0, 1) := by decide +kernel
theorem d_Mo_join_287 : decode b_Mo_join 287 = .ok (.aload_n 0, 1) := by decide +kernel
theorem d_Mo_join_288 : decode b_Mo_join 288 = .ok (.getfield 46, 3) := by decide +kernel
theorem d_Mo_join_291 : decode b_Mo_join 291 = .ok (.aload_n 0, 1) := by decide +kernel
theorem d_Mo_join_292 : decode b_Mo_join 292 = .ok (.getfield 46, 3) := by decide +kernel
theorem d_Mo_join_295 : decode b_Mo_join 295 = .ok (.aload_n 0, 1) := by decide +kernel
theorem d_Mo_join_296 : decode b_Mo_join 296 = .ok (.getfield 40, 3) := by decide +kernel
theorem d_Mo_join_299 : decode b_Mo_join 299 = .ok (.invokevirtual 125, 3) := by decide +kernel
theorem d_Mo_join_302 : decode b_Mo_join 302 = .ok (.aload_n 0, 1) := by decide +kernel
theorem d_Mo_join_303 : decode b_Mo_join 303 = .ok (.getfield 55, 3) := by decide +kernel
theorem d_Mo_join_306 : decode b_Mo_join 306 = .ok (.aload_n 0, 1) := by decide +kernel
theorem d_Mo_join_307 : decode b_Mo_join 307 = .ok (.getfield 46, 3) := by decide +kernel
theorem d_Mo_join_310 : decode b_Mo_join 310 = .ok (.aload_n 0, 1) := by decide +kernel
theorem d_Mo_join_311 : decode b_Mo_join 311 = .ok (.getfield 55, 3) := by decide +kernel
theorem d_Mo_join_314 : decode b_Mo_join 314 = .ok (.invokestatic 132, 3) := by decide +kernel
theorem d_Mo_join_317 : decode b_Mo_join 317 = .ok (.aload_n 0, 1) := by decide +kernel
theorem d_Mo_join_318 : decode b_Mo_join 318 = .ok (.getfield 52, 3) := by decide +kernel
theorem d_Mo_join_321 : decode b_Mo_join 321 = .ok (.aload_n 0, 1) := by decide +kernel
theorem d_Mo_join_322 : decode b_Mo_join 322 = .ok (.getfield 43, 3) := by decide +kernel
theorem d_Mo_join_325 : decode b_Mo_join 325 = .ok (.invokestatic 104, 3) := by decide +kernel
theorem d_Mo_join_328 : decode b_Mo_join 328 = .ok (.return_, 1) := by decide +kernel
section
variable {p : Program} {l : Launch} {e : Env} {R : Room} {s : State} {m : MethodId} {args : Array Value} {below : List Frame} {meth : Method} {c : Code} {cells slots : Nat} {Q : State → Prop}
set_option maxHeartbeats 4000000 in
set_option maxRecDepth 100000 in
theorem lt_Mo_join (hx : p.tables.exec = Jvm.exec) (hb : c.code = b_Mo_join) (hts : ∀ w ∈ w_Mo_join, w.before args s = true) (hown : s.vm.findClass R_Mo = some m.cls) (hml : c.maxLocals = 5) (hRf : 4 ≤ R.frames) (hRl : 92 ≤ R.locals) {E : ks_E} {mo : Nat} {far : Bool} (hE : ks_ok E) (hO : ks_O E mo far) (hB : ks_B E s) {A : Nat → Nat} (hA : ks_A E A) (hC : ks_C E A s) {ax bx : Nat} {sm : Bool} {v : Nat → Nat} (hax : ks_in E ax) (hna : ax ≠ mo + 19 ∧ ax ≠ mo + 20 ∧ ax ≠ mo + 22 ∧ ax ≠ mo + 23 ∧ ax ≠ mo + 24 ∧ ax ≠ mo + 25 ∧ ax ≠ mo + 27 ∧ ax ≠ mo + 30 ∧ ax ≠ mo + 31) (h23 : v (mo + 23) < kP) (h24 : v (mo + 24) < kP) (h24p : 0 < v (mo + 24)) (h26 : v (mo + 26) < kP) (h27 : v (mo + 27) < kP) (hbx : bx < kP) (hb1 : sm = true → v (mo + 26) = bx) (hb2 : sm = false → v ax = bx)
    (kk : ∀ (w : Nat → Nat) (H : Heap) (ls : Array Slot) (locs : List Loc), ks_W E w H → w (mo + 26) = (kc_line (v (mo + 23)) (v (mo + 24)) (v (mo + 26)) (v (mo + 27)) bx).1 → w (mo + 27) = (kc_line (v (mo + 23)) (v (mo + 24)) (v (mo + 26)) (v (mo + 27)) bx).2 → (∀ q, ¬ ks_fr mo q → w q = v q) → (∀ q ∈ locs, q.base = mo ∨ ks_fr mo q.base) → W p l e R s m args below meth c H locs 0 0 Q (F0 m 328 ls []))
    (H0 : Heap) (ls : Array Slot) (locs : List Loc) (hW0 : ks_W E v H0) (hlc0 : ∀ q ∈ locs, q.base = mo ∨ ks_fr mo q.base) (hl : lv_has ls 5 [(4, .int (kq_z sm)), (0, .ref mo), (1, .ref ax)]) : W p l e R s m args below meth c H0 locs 0 0 Q (F0 m 185 ls []) := by
  have hK := hB.1
  have hT := ks_T hE hB
  have hO0 := ks_obj hW0 hO.1 hO.2.1
  have r22 := hO.2.2.1 22 (by decide) (by decide) (by decide)
  have r23 := hO.2.2.1 23 (by decide) (by decide) (by decide)
  have r24 := hO.2.2.1 24 (by decide) (by decide) (by decide)
  have r25 := hO.2.2.1 25 (by decide) (by decide) (by decide)
  have r26 := hO.2.2.1 26 (by decide) (by decide) (by decide)
  have r27 := hO.2.2.1 27 (by decide) (by decide) (by decide)
  obtain ⟨w0, hw0⟩ : ∃ w0, w0 = v := ⟨_, rfl⟩
  rw [← hw0] at hW0
  refine lv_aload_n hx hb d_Mo_join_185 rfl (lv_at hl 1 rfl) ?_
  refine lv_aload_n hx hb d_Mo_join_186 rfl (lv_at hl 1 rfl) ?_
  refine kq_get hx hb hts kt_F_Mo hown hK hO0 rfl 12 (by decide) kt_w388 rfl d_Mo_join_187 ?_
  refine lv_aload_n hx hb d_Mo_join_190 rfl (lv_at hl 1 rfl) ?_
  refine kq_get hx hb hts kt_F_Mo hown hK hO0 rfl 11 (by decide) kt_w387 rfl d_Mo_join_191 ?_
  refine kq_gets hx hb hts (ks_zat hW0 hC.2.1) hown kt_w453 d_Mo_join_194 ?_
  refine kq_call (va_runV (As := [.ref (mo + 25), .ref (mo + 24), .ref (A 0)]) (rest := []) ⟨hx, hb, hml, hown, hts⟩ (c_Mo_inverse l E A mo far w0 H0 hE hA hO hW0 (mo + 25) (mo + 24) (A 0) kP r25 (Or.inl r24) hA.1 kP_prime (by decide) kP_M8.1 (by rw [hw0]; exact h24p) (by rw [hw0]; exact h24) (by omega)) (cwV 3 hts (kt_inV kt_w511 kt_w508 kt_w510 kt_s14 kt_w5) rfl rfl rfl (by decide +kernel) ⟨Nat.le_trans (Nat.le_of_ble_eq_true rfl) hRf, Nat.le_trans (Nat.le_of_ble_eq_true rfl) hRl⟩) (kq_preV ((ks_C_st E A)) (hC) (kq_recv hK hO0 rfl)) rfl rfl hl.1 rfl (lv_room (Nat.le_of_ble_eq_true rfl)) d_Mo_join_197 ⟨Nat.zero_le _, Nat.zero_le _⟩) (fun v9 H1 L1 hq1 hL1 => ?_)
  obtain ⟨rfl, w1, hW1, e1, o1⟩ := hq1
  refine W.eq (g2 := F0 m 200 ls []) rfl ?_
  have hO1 := ks_obj hW1 hO.1 hO.2.1
  have hlc1 := t_lL (free := (fun q => q = mo ∨ ks_fr mo q)) hlc0 (fun q z => Or.inr (by rcases hL1 q z with y | y | y | y | y <;> (rw [y]; unfold ks_fr; omega)))
  rw [hw0] at e1 o1
  have a23 : w1 (mo + 23) = v (mo + 23) := o1 _ (by omega) (by omega) (by omega) (by omega) (by omega)
  have a26 : w1 (mo + 26) = v (mo + 26) := o1 _ (by omega) (by omega) (by omega) (by omega) (by omega)
  have a27 : w1 (mo + 27) = v (mo + 27) := o1 _ (by omega) (by omega) (by omega) (by omega) (by omega)
  have aax : w1 ax = v ax := o1 _ hna.2.2.2.2.2.1 hna.1 hna.2.1 hna.2.2.2.2.2.2.2.1 hna.2.2.2.2.2.2.2.2
  have ax21 := ks_in_ne hE hO hax
  refine lv_aload_n hx hb d_Mo_join_200 rfl (lv_at hl 1 rfl) ?_
  refine lv_aload_n hx hb d_Mo_join_201 rfl (lv_at hl 1 rfl) ?_
  refine kq_get hx hb hts kt_F_Mo hown hK hO1 rfl 9 (by decide) kt_w385 rfl d_Mo_join_202 ?_
  refine lv_aload_n hx hb d_Mo_join_205 rfl (lv_at hl 1 rfl) ?_
  refine kq_get hx hb hts kt_F_Mo hown hK hO1 rfl 10 (by decide) kt_w386 rfl d_Mo_join_206 ?_
  refine lv_aload_n hx hb d_Mo_join_209 rfl (lv_at hl 1 rfl) ?_
  refine kq_get hx hb hts kt_F_Mo hown hK hO1 rfl 12 (by decide) kt_w388 rfl d_Mo_join_210 ?_
  refine kq_call (va_runV (As := [.ref (mo + 22), .ref (mo + 23), .ref (mo + 25)]) (rest := []) ⟨hx, hb, hml, hown, hts⟩ (c_Mo_times_1 l E A mo far w1 H1 hE hA hO hW1 (mo + 22) (mo + 23) (mo + 25) r22 (Or.inl r23) (Or.inl r25)) (cwV 3 hts (kt_inV kt_w499 kt_w496 kt_w498 kt_s13 kt_w5) rfl rfl rfl (by decide +kernel) ⟨Nat.le_trans (Nat.le_of_ble_eq_true rfl) hRf, Nat.le_trans (Nat.le_of_ble_eq_true rfl) hRl⟩) (kq_preV ((ks_C_st E A)) (hC) (kq_recv hK hO1 rfl)) rfl rfl hl.1 rfl (lv_room (Nat.le_of_ble_eq_true rfl)) d_Mo_join_213 ⟨Nat.zero_le _, Nat.zero_le _⟩) (fun v9 H2 L2 hq2 hL2 => ?_)
  obtain ⟨rfl, w2, hW2, e2, o2⟩ := hq2
  refine W.eq (g2 := F0 m 216 ls []) rfl ?_
  have hO2 := ks_obj hW2 hO.1 hO.2.1
  have hlc2 := t_lL (free := (fun q => q = mo ∨ ks_fr mo q)) hlc1 (fun q z => Or.inr (by rcases hL2 q z with y | y <;> (rw [y]; unfold ks_fr; omega)))
  rw [a23, e1] at e2
  refine lv_aload_n hx hb d_Mo_join_216 rfl (lv_at hl 1 rfl) ?_
  refine lv_aload_n hx hb d_Mo_join_217 rfl (lv_at hl 1 rfl) ?_
  refine kq_get hx hb hts kt_F_Mo hown hK hO2 rfl 10 (by decide) kt_w386 rfl d_Mo_join_218 ?_
  refine lv_aload_n hx hb d_Mo_join_221 rfl (lv_at hl 1 rfl) ?_
  refine kq_get hx hb hts kt_F_Mo hown hK hO2 rfl 9 (by decide) kt_w385 rfl d_Mo_join_222 ?_
  refine lv_aload_n hx hb d_Mo_join_225 rfl (lv_at hl 1 rfl) ?_
  refine kq_get hx hb hts kt_F_Mo hown hK hO2 rfl 9 (by decide) kt_w385 rfl d_Mo_join_226 ?_
  refine kq_call (va_runV (As := [.ref (mo + 23), .ref (mo + 22), .ref (mo + 22)]) (rest := []) ⟨hx, hb, hml, hown, hts⟩ (c_Mo_times_1 l E A mo far w2 H2 hE hA hO hW2 (mo + 23) (mo + 22) (mo + 22) r23 (Or.inl r22) (Or.inl r22)) (cwV 3 hts (kt_inV kt_w499 kt_w496 kt_w498 kt_s13 kt_w5) rfl rfl rfl (by decide +kernel) ⟨Nat.le_trans (Nat.le_of_ble_eq_true rfl) hRf, Nat.le_trans (Nat.le_of_ble_eq_true rfl) hRl⟩) (kq_preV ((ks_C_st E A)) (hC) (kq_recv hK hO2 rfl)) rfl rfl hl.1 rfl (lv_room (Nat.le_of_ble_eq_true rfl)) d_Mo_join_229 ⟨Nat.zero_le _, Nat.zero_le _⟩) (fun v9 H3 L3 hq3 hL3 => ?_)
  obtain ⟨rfl, w3, hW3, e3, o3⟩ := hq3
  refine W.eq (g2 := F0 m 232 ls []) rfl ?_
  have hO3 := ks_obj hW3 hO.1 hO.2.1
  have hlc3 := t_lL (free := (fun q => q = mo ∨ ks_fr mo q)) hlc2 (fun q z => Or.inr (by rcases hL3 q z with y | y <;> (rw [y]; unfold ks_fr; omega)))
  rw [e2] at e3
  have b26 : w3 (mo + 26) = v (mo + 26) := by rw [o3 _ (by omega) (by omega), o2 _ (by omega) (by omega), a26]
  refine lv_aload_n hx hb d_Mo_join_232 rfl (lv_at hl 1 rfl) ?_
  refine kq_get hx hb hts kt_F_Mo hown hK hO3 rfl 10 (by decide) kt_w386 rfl d_Mo_join_233 ?_
  refine lv_aload_n hx hb d_Mo_join_236 rfl (lv_at hl 1 rfl) ?_
  refine kq_get hx hb hts kt_F_Mo hown hK hO3 rfl 10 (by decide) kt_w386 rfl d_Mo_join_237 ?_
  refine lv_aload_n hx hb d_Mo_join_240 rfl (lv_at hl 1 rfl) ?_
  refine kq_get hx hb hts kt_F_Mo hown hK hO3 rfl 13 (by decide) kt_w389 rfl d_Mo_join_241 ?_
  refine kq_call (va_runS (As := [.ref (mo + 23), .ref (mo + 23), .ref (mo + 26)]) (rest := []) ⟨hx, hb, hml, hown, hts⟩ (c_Mo_minus l E A w3 H3 hE hA hW3 (mo + 23) (mo + 23) (mo + 26) r23 (Or.inl r23) (Or.inl r26) (by rw [e3]; exact Nat.mod_lt _ (by decide)) (by rw [b26]; exact h26)) (va_cwS 3 hts (kt_inS kt_w581 kt_w579 kt_w580 kt_w5) rfl rfl rfl (by decide +kernel) ⟨Nat.le_trans (Nat.le_of_ble_eq_true rfl) hRf, Nat.le_trans (Nat.le_of_ble_eq_true rfl) hRl⟩) (kq_preS ((ks_C_st E A)) (hC)) rfl rfl hl.1 rfl (lv_room (Nat.le_of_ble_eq_true rfl)) d_Mo_join_244 ⟨Nat.zero_le _, Nat.zero_le _⟩) (fun v9 H4 L4 hq4 hL4 => ?_)
  obtain ⟨rfl, hX4⟩ := hq4
  refine W.eq (g2 := F0 m 247 ls []) rfl ?_
  obtain ⟨w4, e4, o4, hW4⟩ : ∃ w : Nat → Nat, w (mo + 23) = kp_dif kP (w3 (mo + 23)) (w3 (mo + 26)) ∧ (∀ q, q ≠ mo + 23 → w q = w3 q) ∧ ks_W E w H4 := ⟨_, kq_up_at, fun q hq => kq_up_ne hq, hX4⟩
  have hO4 := ks_obj hW4 hO.1 hO.2.1
  have hlc4 := t_lL (free := (fun q => q = mo ∨ ks_fr mo q)) hlc3 (fun q z => Or.inr (by rw [hL4 q z]; unfold ks_fr; omega))
  rw [e3, b26] at e4
  refine lv_aload_n hx hb d_Mo_join_247 rfl (lv_at hl 1 rfl) ?_
  refine kq_get hx hb hts kt_F_Mo hown hK hO4 rfl 10 (by decide) kt_w386 rfl d_Mo_join_248 ?_
  refine lv_aload_n hx hb d_Mo_join_251 rfl (lv_at hl 1 rfl) ?_
  refine kq_get hx hb hts kt_F_Mo hown hK hO4 rfl 10 (by decide) kt_w386 rfl d_Mo_join_252 ?_
  refine lv_iload hx hb d_Mo_join_255 (lv_at hl 0 rfl) ?_
  refine lv_if_eq hx hb d_Mo_join_257 rfl (fun hc0 => ?_) (fun hc0 => ?_)
  · have hd := kq_z_b0 hc0
    have bxe : w4 ax = bx := by rw [o4 _ hna.2.2.2.1, o3 _ hna.2.2.2.1 ax21, o2 _ hna.2.2.1 ax21, aax]; exact hb2 hd
    refine lv_aload_n hx hb d_Mo_join_267 rfl (lv_at hl 2 rfl) ?_
    refine kq_call (va_runS (As := [.ref (mo + 23), .ref (mo + 23), .ref ax]) (rest := []) ⟨hx, hb, hml, hown, hts⟩ (c_Mo_minus l E A w4 H4 hE hA hW4 (mo + 23) (mo + 23) (ax) r23 (Or.inl r23) (hax) (by rw [e4]; exact kp_dif_lt kP_pos) (by rw [bxe]; exact hbx)) (va_cwS 3 hts (kt_inS kt_w581 kt_w579 kt_w580 kt_w5) rfl rfl rfl (by decide +kernel) ⟨Nat.le_trans (Nat.le_of_ble_eq_true rfl) hRf, Nat.le_trans (Nat.le_of_ble_eq_true rfl) hRl⟩) (kq_preS ((ks_C_st E A)) (hC)) rfl rfl hl.1 rfl (lv_room (Nat.le_of_ble_eq_true rfl)) d_Mo_join_268 ⟨Nat.zero_le _, Nat.zero_le _⟩) (fun v9 H5 L5 hq5 hL5 => ?_)
    obtain ⟨rfl, hX5⟩ := hq5
    refine W.eq (g2 := F0 m 271 ls []) rfl ?_
    obtain ⟨w5, e5, o5, hW5⟩ : ∃ w : Nat → Nat, w (mo + 23) = kp_dif kP (w4 (mo + 23)) (w4 (ax)) ∧ (∀ q, q ≠ mo + 23 → w q = w4 q) ∧ ks_W E w H5 := ⟨_, kq_up_at, fun q hq => kq_up_ne hq, hX5⟩
    have hO5 := ks_obj hW5 hO.1 hO.2.1
    have hlc5 := t_lL (free := (fun q => q = mo ∨ ks_fr mo q)) hlc4 (fun q z => Or.inr (by rw [hL5 q z]; unfold ks_fr; omega))
    rw [e4, bxe] at e5
    have c26 : w5 (mo + 26) = v (mo + 26) := by rw [o5 _ (by omega), o4 _ (by omega), b26]
    have c27 : w5 (mo + 27) = v (mo + 27) := by rw [o5 _ (by omega), o4 _ (by omega), o3 _ (by omega) (by omega), o2 _ (by omega) (by omega), a27]
    have c22 : w5 (mo + 22) = v (mo + 23) * kf_inv kP (v (mo + 24)) % kP := by rw [o5 _ (by omega), o4 _ (by omega), o3 _ (by omega) (by omega), e2]
    refine lv_aload_n hx hb d_Mo_join_271 rfl (lv_at hl 1 rfl) ?_
    refine kq_get hx hb hts kt_F_Mo hown hK hO5 rfl 11 (by decide) kt_w387 rfl d_Mo_join_272 ?_
    refine lv_aload_n hx hb d_Mo_join_275 rfl (lv_at hl 1 rfl) ?_
    refine kq_get hx hb hts kt_F_Mo hown hK hO5 rfl 13 (by decide) kt_w389 rfl d_Mo_join_276 ?_
    refine lv_aload_n hx hb d_Mo_join_279 rfl (lv_at hl 1 rfl) ?_
    refine kq_get hx hb hts kt_F_Mo hown hK hO5 rfl 10 (by decide) kt_w386 rfl d_Mo_join_280 ?_
    refine kq_call (va_runS (As := [.ref (mo + 24), .ref (mo + 26), .ref (mo + 23)]) (rest := []) ⟨hx, hb, hml, hown, hts⟩ (c_Mo_minus l E A w5 H5 hE hA hW5 (mo + 24) (mo + 26) (mo + 23) r24 (Or.inl r26) (Or.inl r23) (by rw [c26]; exact h26) (by rw [e5]; exact kp_dif_lt kP_pos)) (va_cwS 3 hts (kt_inS kt_w581 kt_w579 kt_w580 kt_w5) rfl rfl rfl (by decide +kernel) ⟨Nat.le_trans (Nat.le_of_ble_eq_true rfl) hRf, Nat.le_trans (Nat.le_of_ble_eq_true rfl) hRl⟩) (kq_preS ((ks_C_st E A)) (hC)) rfl rfl hl.1 rfl (lv_room (Nat.le_of_ble_eq_true rfl)) d_Mo_join_283 ⟨Nat.zero_le _, Nat.zero_le _⟩) (fun v9 H6 L6 hq6 hL6 => ?_)
    obtain ⟨rfl, hX6⟩ := hq6
    refine W.eq (g2 := F0 m 286 ls []) rfl ?_
    obtain ⟨w6, e6, o6, hW6⟩ : ∃ w : Nat → Nat, w (mo + 24) = kp_dif kP (w5 (mo + 26)) (w5 (mo + 23)) ∧ (∀ q, q ≠ mo + 24 → w q = w5 q) ∧ ks_W E w H6 := ⟨_, kq_up_at, fun q hq => kq_up_ne hq, hX6⟩
    have hO6 := ks_obj hW6 hO.1 hO.2.1
    have hlc6 := t_lL (free := (fun q => q = mo ∨ ks_fr mo q)) hlc5 (fun q z => Or.inr (by rw [hL6 q z]; unfold ks_fr; omega))
    rw [c26, e5] at e6
    refine lv_aload_n hx hb d_Mo_join_286 rfl (lv_at hl 1 rfl) ?_
    refine lv_aload_n hx hb d_Mo_join_287 rfl (lv_at hl 1 rfl) ?_
    refine kq_get hx hb hts kt_F_Mo hown hK hO6 rfl 11 (by decide) kt_w387 rfl d_Mo_join_288 ?_
    refine lv_aload_n hx hb d_Mo_join_291 rfl (lv_at hl 1 rfl) ?_
    refine kq_get hx hb hts kt_F_Mo hown hK hO6 rfl 11 (by decide) kt_w387 rfl d_Mo_join_292 ?_
    refine lv_aload_n hx hb d_Mo_join_295 rfl (lv_at hl 1 rfl) ?_
    refine kq_get hx hb hts kt_F_Mo hown hK hO6 rfl 9 (by decide) kt_w385 rfl d_Mo_join_296 ?_
    refine kq_call (va_runV (As := [.ref (mo + 24), .ref (mo + 24), .ref (mo + 22)]) (rest := []) ⟨hx, hb, hml, hown, hts⟩ (c_Mo_times_1 l E A mo far w6 H6 hE hA hO hW6 (mo + 24) (mo + 24) (mo + 22) r24 (Or.inl r24) (Or.inl r22)) (cwV 3 hts (kt_inV kt_w499 kt_w496 kt_w498 kt_s13 kt_w5) rfl rfl rfl (by decide +kernel) ⟨Nat.le_trans (Nat.le_of_ble_eq_true rfl) hRf, Nat.le_trans (Nat.le_of_ble_eq_true rfl) hRl⟩) (kq_preV ((ks_C_st E A)) (hC) (kq_recv hK hO6 rfl)) rfl rfl hl.1 rfl (lv_room (Nat.le_of_ble_eq_true rfl)) d_Mo_join_299 ⟨Nat.zero_le _, Nat.zero_le _⟩) (fun v9 H7 L7 hq7 hL7 => ?_)
    obtain ⟨rfl, w7, hW7, e7, o7⟩ := hq7
    refine W.eq (g2 := F0 m 302 ls []) rfl ?_
    have hO7 := ks_obj hW7 hO.1 hO.2.1
    have hlc7 := t_lL (free := (fun q => q = mo ∨ ks_fr mo q)) hlc6 (fun q z => Or.inr (by rcases hL7 q z with y | y <;> (rw [y]; unfold ks_fr; omega)))
    rw [e6, o6 (mo + 22) (by omega), c22] at e7
    have d27 : w7 (mo + 27) = v (mo + 27) := by rw [o7 _ (by omega) (by omega), o6 _ (by omega), c27]
    refine lv_aload_n hx hb d_Mo_join_302 rfl (lv_at hl 1 rfl) ?_
    refine kq_get hx hb hts kt_F_Mo hown hK hO7 rfl 14 (by decide) kt_w390 rfl d_Mo_join_303 ?_
    refine lv_aload_n hx hb d_Mo_join_306 rfl (lv_at hl 1 rfl) ?_
    refine kq_get hx hb hts kt_F_Mo hown hK hO7 rfl 11 (by decide) kt_w387 rfl d_Mo_join_307 ?_
    refine lv_aload_n hx hb d_Mo_join_310 rfl (lv_at hl 1 rfl) ?_
    refine kq_get hx hb hts kt_F_Mo hown hK hO7 rfl 14 (by decide) kt_w390 rfl d_Mo_join_311 ?_
    refine kq_call (va_runS (As := [.ref (mo + 27), .ref (mo + 24), .ref (mo + 27)]) (rest := []) ⟨hx, hb, hml, hown, hts⟩ (c_Mo_minus l E A w7 H7 hE hA hW7 (mo + 27) (mo + 24) (mo + 27) r27 (Or.inl r24) (Or.inl r27) (by rw [e7]; exact Nat.mod_lt _ (by decide)) (by rw [d27]; exact h27)) (va_cwS 3 hts (kt_inS kt_w581 kt_w579 kt_w580 kt_w5) rfl rfl rfl (by decide +kernel) ⟨Nat.le_trans (Nat.le_of_ble_eq_true rfl) hRf, Nat.le_trans (Nat.le_of_ble_eq_true rfl) hRl⟩) (kq_preS ((ks_C_st E A)) (hC)) rfl rfl hl.1 rfl (lv_room (Nat.le_of_ble_eq_true rfl)) d_Mo_join_314 ⟨Nat.zero_le _, Nat.zero_le _⟩) (fun v9 H8 L8 hq8 hL8 => ?_)
    obtain ⟨rfl, hX8⟩ := hq8
    refine W.eq (g2 := F0 m 317 ls []) rfl ?_
    obtain ⟨w8, e8, o8, hW8⟩ : ∃ w : Nat → Nat, w (mo + 27) = kp_dif kP (w7 (mo + 24)) (w7 (mo + 27)) ∧ (∀ q, q ≠ mo + 27 → w q = w7 q) ∧ ks_W E w H8 := ⟨_, kq_up_at, fun q hq => kq_up_ne hq, hX8⟩
    have hO8 := ks_obj hW8 hO.1 hO.2.1
    have hlc8 := t_lL (free := (fun q => q = mo ∨ ks_fr mo q)) hlc7 (fun q z => Or.inr (by rw [hL8 q z]; unfold ks_fr; omega))
    rw [e7, d27] at e8
    have d23 : w8 (mo + 23) = w5 (mo + 23) := by rw [o8 _ (by omega), o7 _ (by omega) (by omega), o6 _ (by omega)]
    have s23 := ks_src hE hW8 hB (Or.inl r23)
    have l23 := ks_lt hE hW8 (Or.inl r23)
    refine lv_aload_n hx hb d_Mo_join_317 rfl (lv_at hl 1 rfl) ?_
    refine kq_get hx hb hts kt_F_Mo hown hK hO8 rfl 13 (by decide) kt_w389 rfl d_Mo_join_318 ?_
    refine lv_aload_n hx hb d_Mo_join_321 rfl (lv_at hl 1 rfl) ?_
    refine kq_get hx hb hts kt_F_Mo hown hK hO8 rfl 10 (by decide) kt_w386 rfl d_Mo_join_322 ?_
    refine kq_call (va_runS (As := [.ref (mo + 26), .ref (mo + 23)]) (rest := []) ⟨hx, hb, hml, hown, hts⟩ (c_Mo_copy l H8 (ks_c E) (mo + 26) (mo + 23) _ _ (ks_row hW8 r26)) (va_cwS 2 hts (kt_inS kt_w461 kt_w459 kt_w460 kt_w5) rfl rfl rfl (by decide +kernel) ⟨Nat.le_trans (Nat.le_of_ble_eq_true rfl) hRf, Nat.le_trans (Nat.le_of_ble_eq_true rfl) hRl⟩) (kq_preS (kq_st_A.both kq_st_r) (⟨hT, s23⟩)) rfl rfl hl.1 rfl (lv_room (Nat.le_of_ble_eq_true rfl)) d_Mo_join_325 ⟨Nat.zero_le _, Nat.zero_le _⟩) (fun v9 H9 L9 hq9 hL9 => ?_)
    obtain ⟨rfl, rfl⟩ := hq9
    refine W.eq (g2 := F0 m 328 ls []) rfl ?_
    have hlc9 := t_lL (free := (fun q => q = mo ∨ ks_fr mo q)) hlc8 (fun q z => Or.inr (by rw [hL9 q z]; unfold ks_fr; omega))
    refine kk _ _ ls _ (ks_put hE hW8 r26 l23) ?_ ?_ (fun q hq => ?_) hlc9
    · rw [kq_up_at, d23, e5]
      rfl
    · rw [kq_up_ne (by omega), e8]
      rfl
    · have z : ∀ k, 18 ≤ k → k ≤ 31 → q ≠ mo + k := fun k k1 k2 y => hq ⟨by omega, by omega⟩
      rw [kq_up_ne (z 26 (by decide) (by decide)), o8 q (z 27 (by decide) (by decide)), o7 q (z 24 (by decide) (by decide)) (z 21 (by decide) (by decide)), o6 q (z 24 (by decide) (by decide)), o5 q (z 23 (by decide) (by decide)), o4 q (z 23 (by decide) (by decide)), o3 q (z 23 (by decide) (by decide)) (z 21 (by decide) (by decide)), o2 q (z 22 (by decide) (by decide)) (z 21 (by decide) (by decide)), o1 q (z 25 (by decide) (by decide)) (z 19 (by decide) (by decide)) (z 20 (by decide) (by decide)) (z 30 (by decide) (by decide)) (z 31 (by decide) (by decide))]
  · have hd := kq_z_b1 hc0
    have bxe : w4 (mo + 26) = bx := by rw [o4 _ (by omega), b26]; exact hb1 hd
    refine lv_aload_n hx hb d_Mo_join_260 rfl (lv_at hl 1 rfl) ?_
    refine kq_get hx hb hts kt_F_Mo hown hK hO4 rfl 13 (by decide) kt_w389 rfl d_Mo_join_261 ?_
    refine lv_goto hx hb d_Mo_join_264 rfl ?_
    refine kq_call (va_runS (As := [.ref (mo + 23), .ref (mo + 23), .ref (mo + 26)]) (rest := []) ⟨hx, hb, hml, hown, hts⟩ (c_Mo_minus l E A w4 H4 hE hA hW4 (mo + 23) (mo + 23) (mo + 26) r23 (Or.inl r23) (Or.inl r26) (by rw [e4]; exact kp_dif_lt kP_pos) (by rw [bxe]; exact hbx)) (va_cwS 3 hts (kt_inS kt_w581 kt_w579 kt_w580 kt_w5) rfl rfl rfl (by decide +kernel) ⟨Nat.le_trans (Nat.le_of_ble_eq_true rfl) hRf, Nat.le_trans (Nat.le_of_ble_eq_true rfl) hRl⟩) (kq_preS ((ks_C_st E A)) (hC)) rfl rfl hl.1 rfl (lv_room (Nat.le_of_ble_eq_true rfl)) d_Mo_join_268 ⟨Nat.zero_le _, Nat.zero_le _⟩) (fun v9 H5 L5 hq5 hL5 => ?_)
    obtain ⟨rfl, hX5⟩ := hq5
    refine W.eq (g2 := F0 m 271 ls []) rfl ?_
    obtain ⟨w5, e5, o5, hW5⟩ : ∃ w : Nat → Nat, w (mo + 23) = kp_dif kP (w4 (mo + 23)) (w4 (mo + 26)) ∧ (∀ q, q ≠ mo + 23 → w q = w4 q) ∧ ks_W E w H5 := ⟨_, kq_up_at, fun q hq => kq_up_ne hq, hX5⟩
    have hO5 := ks_obj hW5 hO.1 hO.2.1
    have hlc5 := t_lL (free := (fun q => q = mo ∨ ks_fr mo q)) hlc4 (fun q z => Or.inr (by rw [hL5 q z]; unfold ks_fr; omega))
    rw [e4, bxe] at e5
    have c26 : w5 (mo + 26) = v (mo + 26) := by rw [o5 _ (by omega), o4 _ (by omega), b26]
    have c27 : w5 (mo + 27) = v (mo + 27) := by rw [o5 _ (by omega), o4 _ (by omega), o3 _ (by omega) (by omega), o2 _ (by omega) (by omega), a27]
    have c22 : w5 (mo + 22) = v (mo + 23) * kf_inv kP (v (mo + 24)) % kP := by rw [o5 _ (by omega), o4 _ (by omega), o3 _ (by omega) (by omega), e2]
    refine lv_aload_n hx hb d_Mo_join_271 rfl (lv_at hl 1 rfl) ?_
    refine kq_get hx hb hts kt_F_Mo hown hK hO5 rfl 11 (by decide) kt_w387 rfl d_Mo_join_272 ?_
    refine lv_aload_n hx hb d_Mo_join_275 rfl (lv_at hl 1 rfl) ?_
    refine kq_get hx hb hts kt_F_Mo hown hK hO5 rfl 13 (by decide) kt_w389 rfl d_Mo_join_276 ?_
    refine lv_aload_n hx hb d_Mo_join_279 rfl (lv_at hl 1 rfl) ?_
    refine kq_get hx hb hts kt_F_Mo hown hK hO5 rfl 10 (by decide) kt_w386 rfl d_Mo_join_280 ?_
    refine kq_call (va_runS (As := [.ref (mo + 24), .ref (mo + 26), .ref (mo + 23)]) (rest := []) ⟨hx, hb, hml, hown, hts⟩ (c_Mo_minus l E A w5 H5 hE hA hW5 (mo + 24) (mo + 26) (mo + 23) r24 (Or.inl r26) (Or.inl r23) (by rw [c26]; exact h26) (by rw [e5]; exact kp_dif_lt kP_pos)) (va_cwS 3 hts (kt_inS kt_w581 kt_w579 kt_w580 kt_w5) rfl rfl rfl (by decide +kernel) ⟨Nat.le_trans (Nat.le_of_ble_eq_true rfl) hRf, Nat.le_trans (Nat.le_of_ble_eq_true rfl) hRl⟩) (kq_preS ((ks_C_st E A)) (hC)) rfl rfl hl.1 rfl (lv_room (Nat.le_of_ble_eq_true rfl)) d_Mo_join_283 ⟨Nat.zero_le _, Nat.zero_le _⟩) (fun v9 H6 L6 hq6 hL6 => ?_)
    obtain ⟨rfl, hX6⟩ := hq6
    refine W.eq (g2 := F0 m 286 ls []) rfl ?_
    obtain ⟨w6, e6, o6, hW6⟩ : ∃ w : Nat → Nat, w (mo + 24) = kp_dif kP (w5 (mo + 26)) (w5 (mo + 23)) ∧ (∀ q, q ≠ mo + 24 → w q = w5 q) ∧ ks_W E w H6 := ⟨_, kq_up_at, fun q hq => kq_up_ne hq, hX6⟩
    have hO6 := ks_obj hW6 hO.1 hO.2.1
    have hlc6 := t_lL (free := (fun q => q = mo ∨ ks_fr mo q)) hlc5 (fun q z => Or.inr (by rw [hL6 q z]; unfold ks_fr; omega))
    rw [c26, e5] at e6
    refine lv_aload_n hx hb d_Mo_join_286 rfl (lv_at hl 1 rfl) ?_
    refine lv_aload_n hx hb d_Mo_join_287 rfl (lv_at hl 1 rfl) ?_
    refine kq_get hx hb hts kt_F_Mo hown hK hO6 rfl 11 (by decide) kt_w387 rfl d_Mo_join_288 ?_
    refine lv_aload_n hx hb d_Mo_join_291 rfl (lv_at hl 1 rfl) ?_
    refine kq_get hx hb hts kt_F_Mo hown hK hO6 rfl 11 (by decide) kt_w387 rfl d_Mo_join_292 ?_
    refine lv_aload_n hx hb d_Mo_join_295 rfl (lv_at hl 1 rfl) ?_
    refine kq_get hx hb hts kt_F_Mo hown hK hO6 rfl 9 (by decide) kt_w385 rfl d_Mo_join_296 ?_
    refine kq_call (va_runV (As := [.ref (mo + 24), .ref (mo + 24), .ref (mo + 22)]) (rest := []) ⟨hx, hb, hml, hown, hts⟩ (c_Mo_times_1 l E A mo far w6 H6 hE hA hO hW6 (mo + 24) (mo + 24) (mo + 22) r24 (Or.inl r24) (Or.inl r22)) (cwV 3 hts (kt_inV kt_w499 kt_w496 kt_w498 kt_s13 kt_w5) rfl rfl rfl (by decide +kernel) ⟨Nat.le_trans (Nat.le_of_ble_eq_true rfl) hRf, Nat.le_trans (Nat.le_of_ble_eq_true rfl) hRl⟩) (kq_preV ((ks_C_st E A)) (hC) (kq_recv hK hO6 rfl)) rfl rfl hl.1 rfl (lv_room (Nat.le_of_ble_eq_true rfl)) d_Mo_join_299 ⟨Nat.zero_le _, Nat.zero_le _⟩) (fun v9 H7 L7 hq7 hL7 => ?_)
    obtain ⟨rfl, w7, hW7, e7, o7⟩ := hq7
    refine W.eq (g2 := F0 m 302 ls []) rfl ?_
    have hO7 := ks_obj hW7 hO.1 hO.2.1
    have hlc7 := t_lL (free := (fun q => q = mo ∨ ks_fr mo q)) hlc6 (fun q z => Or.inr (by rcases hL7 q z with y | y <;> (rw [y]; unfold ks_fr; omega)))
    rw [e6, o6 (mo + 22) (by omega), c22] at e7
    have d27 : w7 (mo + 27) = v (mo + 27) := by rw [o7 _ (by omega) (by omega), o6 _ (by omega), c27]
    refine lv_aload_n hx hb d_Mo_join_302 rfl (lv_at hl 1 rfl) ?_
    refine kq_get hx hb hts kt_F_Mo hown hK hO7 rfl 14 (by decide) kt_w390 rfl d_Mo_join_303 ?_
    refine lv_aload_n hx hb d_Mo_join_306 rfl (lv_at hl 1 rfl) ?_
    refine kq_get hx hb hts kt_F_Mo hown hK hO7 rfl 11 (by decide) kt_w387 rfl d_Mo_join_307 ?_
    refine lv_aload_n hx hb d_Mo_join_310 rfl (lv_at hl 1 rfl) ?_
    refine kq_get hx hb hts kt_F_Mo hown hK hO7 rfl 14 (by decide) kt_w390 rfl d_Mo_join_311 ?_
    refine kq_call (va_runS (As := [.ref (mo + 27), .ref (mo + 24), .ref (mo + 27)]) (rest := []) ⟨hx, hb, hml, hown, hts⟩ (c_Mo_minus l E A w7 H7 hE hA hW7 (mo + 27) (mo + 24) (mo + 27) r27 (Or.inl r24) (Or.inl r27) (by rw [e7]; exact Nat.mod_lt _ (by decide)) (by rw [d27]; exact h27)) (va_cwS 3 hts (kt_inS kt_w581 kt_w579 kt_w580 kt_w5) rfl rfl rfl (by decide +kernel) ⟨Nat.le_trans (Nat.le_of_ble_eq_true rfl) hRf, Nat.le_trans (Nat.le_of_ble_eq_true rfl) hRl⟩) (kq_preS ((ks_C_st E A)) (hC)) rfl rfl hl.1 rfl (lv_room (Nat.le_of_ble_eq_true rfl)) d_Mo_join_314 ⟨Nat.zero_le _, Nat.zero_le _⟩) (fun v9 H8 L8 hq8 hL8 => ?_)
    obtain ⟨rfl, hX8⟩ := hq8
    refine W.eq (g2 := F0 m 317 ls []) rfl ?_
    obtain ⟨w8, e8, o8, hW8⟩ : ∃ w : Nat → Nat, w (mo + 27) = kp_dif kP (w7 (mo + 24)) (w7 (mo + 27)) ∧ (∀ q, q ≠ mo + 27 → w q = w7 q) ∧ ks_W E w H8 := ⟨_, kq_up_at, fun q hq => kq_up_ne hq, hX8⟩
    have hO8 := ks_obj hW8 hO.1 hO.2.1
    have hlc8 := t_lL (free := (fun q => q = mo ∨ ks_fr mo q)) hlc7 (fun q z => Or.inr (by rw [hL8 q z]; unfold ks_fr; omega))
    rw [e7, d27] at e8
    have d23 : w8 (mo + 23) = w5 (mo + 23) := by rw [o8 _ (by omega), o7 _ (by omega) (by omega), o6 _ (by omega)]
    have s23 := ks_src hE hW8 hB (Or.inl r23)
    have l23 := ks_lt hE hW8 (Or.inl r23)
    refine lv_aload_n hx hb d_Mo_join_317 rfl (lv_at hl 1 rfl) ?_
    refine kq_get hx hb hts kt_F_Mo hown hK hO8 rfl 13 (by decide) kt_w389 rfl d_Mo_join_318 ?_
    refine lv_aload_n hx hb d_Mo_join_321 rfl (lv_at hl 1 rfl) ?_
    refine kq_get hx hb hts kt_F_Mo hown hK hO8 rfl 10 (by decide) kt_w386 rfl d_Mo_join_322 ?_
    refine kq_call (va_runS (As := [.ref (mo + 26), .ref (mo + 23)]) (rest := []) ⟨hx, hb, hml, hown, hts⟩ (c_Mo_copy l H8 (ks_c E) (mo + 26) (mo + 23) _ _ (ks_row hW8 r26)) (va_cwS 2 hts (kt_inS kt_w461 kt_w459 kt_w460 kt_w5) rfl rfl rfl (by decide +kernel) ⟨Nat.le_trans (Nat.le_of_ble_eq_true rfl) hRf, Nat.le_trans (Nat.le_of_ble_eq_true rfl) hRl⟩) (kq_preS (kq_st_A.both kq_st_r) (⟨hT, s23⟩)) rfl rfl hl.1 rfl (lv_room (Nat.le_of_ble_eq_true rfl)) d_Mo_join_325 ⟨Nat.zero_le _, Nat.zero_le _⟩) (fun v9 H9 L9 hq9 hL9 => ?_)
    obtain ⟨rfl, rfl⟩ := hq9
    refine W.eq (g2 := F0 m 328 ls []) rfl ?_
    have hlc9 := t_lL (free := (fun q => q = mo ∨ ks_fr mo q)) hlc8 (fun q z => Or.inr (by rw [hL9 q z]; unfold ks_fr; omega))
    refine kk _ _ ls _ (ks_put hE hW8 r26 l23) ?_ ?_ (fun q hq => ?_) hlc9
    · rw [kq_up_at, d23, e5]
      rfl
    · rw [kq_up_ne (by omega), e8]
      rfl
    · have z : ∀ k, 18 ≤ k → k ≤ 31 → q ≠ mo + k := fun k k1 k2 y => hq ⟨by omega, by omega⟩
      rw [kq_up_ne (z 26 (by decide) (by decide)), o8 q (z 27 (by decide) (by decide)), o7 q (z 24 (by decide) (by decide)) (z 21 (by decide) (by decide)), o6 q (z 24 (by decide) (by decide)), o5 q (z 23 (by decide) (by decide)), o4 q (z 23 (by decide) (by decide)), o3 q (z 23 (by decide) (by decide)) (z 21 (by decide) (by decide)), o2 q (z 22 (by decide) (by decide)) (z 21 (by decide) (by decide)), o1 q (z 25 (by decide) (by decide)) (z 19 (by decide) (by decide)) (z 20 (by decide) (by decide)) (z 30 (by decide) (by decide)) (z 31 (by decide) (by decide))]
end
