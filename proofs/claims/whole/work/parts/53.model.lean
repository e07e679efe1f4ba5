/-! The constructor of KeyCurveModel (own rows). -/
def kn_MB (D : va_G) (tys : List (ClassId × FieldType)) (U : State) : Prop := va_K D kr_cl tys U ∧ (Cond.arrayOver (.array .int)).before #[] U = true
theorem kn_MB_st {D : va_G} {tys : List (ClassId × FieldType)} : kq_st (kn_MB D tys) := fun u U hv q => ⟨va_K.moved hv q.1, over_moved hv q.2⟩
/-- a new KeyCurveModel at mo -/
def kn_mo (D : va_G) (cI cII cZ : ClassId) (H : Heap) (mo : Nat) : Prop := va_P D kr_cl [(mo, .inr (4, [.ref (mo + 1), .ref (mo + 6), .ref (mo + 11), .ref (mo + 16), .ref (mo + 17), .ref (mo + 18), .ref (mo + 19), .ref (mo + 20), .ref (mo + 21), .ref (mo + 22), .ref (mo + 23), .ref (mo + 24), .ref (mo + 25), .ref (mo + 26), .ref (mo + 27), .ref (mo + 28), .ref (mo + 29), .int (kq_z false), .ref (mo + 30), .ref (mo + 31)]))] H ∧ (H[mo + 1]? = some (kn_R cII 4 4 (fun j => mo + 2 + j)) ∧ H[mo + 6]? = some (kn_R cII 4 4 (fun j => mo + 7 + j)) ∧ H[mo + 11]? = some (kn_R cII 4 4 (fun j => mo + 12 + j))) ∧ (∀ j, j < 4 → H[mo + 2 + j]? = some (kq_I cI 8 0) ∧ H[mo + 7 + j]? = some (kq_I cI 8 0) ∧ H[mo + 12 + j]? = some (kq_I cI 8 0)) ∧ (∃ bs : Nat → Bool, (∀ j, j < 4 → bs j = true) ∧ H[mo + 16]? = some (kq_B cZ bs)) ∧ H[mo + 17]? = some (kq_I cI 8 1) ∧ (∀ k, 18 ≤ k → k ≤ 31 → k ≠ 21 → H[mo + k]? = some (kq_I cI 8 0)) ∧ H[mo + 21]? = some (kq_I cI 16 0)
/-- the object and the cells behind it so far -/
def kn_S (D : va_G) (fs : List Value) (H0 H : Heap) (mo n : Nat) (xs : List Cell) : Prop := H.size = mo + n ∧ n = 1 + xs.length ∧ (∀ q, q < mo → H[q]? = H0[q]?) ∧ va_P D kr_cl [(mo, .inr (4, fs))] H ∧ kn_C H mo xs
theorem kn_S.push {D : va_G} {fs : List Value} {H0 H H1 : Heap} {mo n : Nat} {xs : List Cell} {x : Cell} (h : kn_S D fs H0 H mo n xs) (hx : H1[mo + n]? = some x) (hz : H1.size = mo + n + 1) (e : ∀ q : Nat, q < mo + n → H1[q]? = H[q]?) : kn_S D fs H0 H1 mo (n + 1) (xs ++ [x]) := by
  obtain ⟨h1, h2, h3, h4, h5⟩ := h
  refine ⟨hz, by rw [List.length_append, h2]; rfl, fun q hq => (e q (by omega)).trans (h3 q hq), kn_keep h4 (e _ (by omega)), h5.push (by omega) (by rw [h1]; exact hx) (by rw [h1]; exact e)⟩
theorem kn_S.put {D : va_G} {fs fs1 : List Value} {H0 H H1 : Heap} {mo n : Nat} {xs : List Cell} (h : kn_S D fs H0 H mo n xs) (hP : va_P D kr_cl [(mo, .inr (4, fs1))] H1) (hz : H1.size = H.size) (e : ∀ q : Nat, q ≠ mo → H1[q]? = H[q]?) : kn_S D fs1 H0 H1 mo n xs := by
  obtain ⟨h1, h2, h3, h4, h5⟩ := h
  exact ⟨hz.trans h1, h2, fun q hq => (e q (by omega)).trans (h3 q hq), hP, h5.put e⟩
theorem kn_S.set {D : va_G} {fs : List Value} {H0 H H1 : Heap} {mo n j : Nat} {xs : List Cell} {x : Cell} (h : kn_S D fs H0 H mo n xs) (hx : H1[mo + 1 + j]? = some x) (hz : H1.size = H.size) (e : ∀ q : Nat, q ≠ mo + 1 + j → H1[q]? = H[q]?) : kn_S D fs H0 H1 mo n (xs.set j x) := by
  obtain ⟨h1, h2, h3, h4, h5⟩ := h
  exact ⟨hz.trans h1, by rw [List.length_set]; exact h2, fun q hq => (e q (by omega)).trans (h3 q hq), kn_keep h4 (e _ (by omega)), h5.set hx e⟩
theorem kn_S.five {D : va_G} {fs : List Value} {H0 H H1 : Heap} {mo n : Nat} {xs : List Cell} {a b : Cell} (h : kn_S D fs H0 H mo n xs) (hz : H1.size = mo + n + 1 + 4) (e : ∀ q : Nat, q < mo + n → H1[q]? = H[q]?) (ha : H1[mo + n]? = some a) (hr : ∀ j : Nat, j < 4 → H1[mo + n + 1 + j]? = some b) : kn_S D fs H0 H1 mo (n + 5) (xs ++ [a, b, b, b, b]) := by
  obtain ⟨h1, h2, h3, h4, h5⟩ := h
  refine ⟨by omega, by rw [List.length_append, h2]; show _ = 1 + (xs.length + 5); omega, fun q hq => (e q (by omega)).trans (h3 q hq), kn_keep h4 (e _ (by omega)), h5.app (by omega) (by rw [h1]; exact kn_five ha hr) (by rw [h1]; exact e)⟩
theorem d_Mo_init_0 : decode b_Mo_init 0 = .ok (.aload_n 0, 1) := by decide +kernel
theorem d_Mo_init_1 : decode b_Mo_init 1 = .ok (.invokespecial 1, 3) := by decide +kernel
theorem d_Mo_init_4 : decode b_Mo_init 4 = .ok (.aload_n 0, 1) := by decide +kernel
theorem d_Mo_init_5 : decode b_Mo_init 5 = .ok (.iconst 4, 1) := by decide +kernel
theorem d_Mo_init_6 : decode b_Mo_init 6 = .ok (.bipush 8, 2) := by decide +kernel
theorem d_Mo_init_8 : decode b_Mo_init 8 = .ok (.multianewarray 7 2, 4) := by decide +kernel
theorem d_Mo_init_12 : decode b_Mo_init 12 = .ok (.putfield 9, 3) := by decide +kernel
theorem d_Mo_init_15 : decode b_Mo_init 15 = .ok (.aload_n 0, 1) := by decide +kernel
theorem d_Mo_init_16 : decode b_Mo_init 16 = .ok (.iconst 4, 1) := by decide +kernel
theorem d_Mo_init_17 : decode b_Mo_init 17 = .ok (.bipush 8, 2) := by decide +kernel
theorem d_Mo_init_19 : decode b_Mo_init 19 = .ok (.multianewarray 7 2, 4) := by decide +kernel
theorem d_Mo_init_23 : decode b_Mo_init 23 = .ok (.putfield 14, 3) := by decide +kernel
theorem d_Mo_init_26 : decode b_Mo_init 26 = .ok (.aload_n 0, 1) := by decide +kernel
theorem d_Mo_init_27 : decode b_Mo_init 27 = .ok (.iconst 4, 1) := by decide +kernel
theorem d_Mo_init_28 : decode b_Mo_init 28 = .ok (.bipush 8, 2) := by decide +kernel
theorem d_Mo_init_30 : decode b_Mo_init 30 = .ok (.multianewarray 7 2, 4) := by decide +kernel
theorem d_Mo_init_34 : decode b_Mo_init 34 = .ok (.putfield 17, 3) := by decide +kernel
theorem d_Mo_init_37 : decode b_Mo_init 37 = .ok (.aload_n 0, 1) := by decide +kernel
theorem d_Mo_init_38 : decode b_Mo_init 38 = .ok (.iconst 4, 1) := by decide +kernel
theorem d_Mo_init_39 : decode b_Mo_init 39 = .ok (.newarray .boolean, 2) := by decide +kernel
theorem d_Mo_init_41 : decode b_Mo_init 41 = .ok (.dup, 1) := by decide +kernel
theorem d_Mo_init_42 : decode b_Mo_init 42 = .ok (.iconst 0, 1) := by decide +kernel
theorem d_Mo_init_43 : decode b_Mo_init 43 = .ok (.iconst 1, 1) := by decide +kernel
theorem d_Mo_init_44 : decode b_Mo_init 44 = .ok (.bastore, 1) := by decide +kernel
theorem d_Mo_init_45 : decode b_Mo_init 45 = .ok (.dup, 1) := by decide +kernel
theorem d_Mo_init_46 : decode b_Mo_init 46 = .ok (.iconst 1, 1) := by decide +kernel
theorem d_Mo_init_47 : decode b_Mo_init 47 = .ok (.iconst 1, 1) := by decide +kernel
theorem d_Mo_init_48 : decode b_Mo_init 48 = .ok (.bastore, 1) := by decide +kernel
theorem d_Mo_init_49 : decode b_Mo_init 49 = .ok (.dup, 1) := by decide +kernel
theorem d_Mo_init_50 : decode b_Mo_init 50 = .ok (.iconst 2, 1) := by decide +kernel
theorem d_Mo_init_51 : decode b_Mo_init 51 = .ok (.iconst 1, 1) := by decide +kernel
theorem d_Mo_init_52 : decode b_Mo_init 52 = .ok (.bastore, 1) := by decide +kernel
theorem d_Mo_init_53 : decode b_Mo_init 53 = .ok (.dup, 1) := by decide +kernel
theorem d_Mo_init_54 : decode b_Mo_init 54 = .ok (.iconst 3, 1) := by decide +kernel
theorem d_Mo_init_55 : decode b_Mo_init 55 = .ok (.iconst 1, 1) := by decide +kernel
theorem d_Mo_init_56 : decode b_Mo_init 56 = .ok (.bastore, 1) := by decide +kernel
theorem d_Mo_init_57 : decode b_Mo_init 57 = .ok (.putfield 20, 3) := by decide +kernel
theorem d_Mo_init_60 : decode b_Mo_init 60 = .ok (.aload_n 0, 1) := by decide +kernel
theorem d_Mo_init_61 : decode b_Mo_init 61 = .ok (.bipush 8, 2) := by decide +kernel
theorem d_Mo_init_63 : decode b_Mo_init 63 = .ok (.newarray .int, 2) := by decide +kernel
theorem d_Mo_init_65 : decode b_Mo_init 65 = .ok (.dup, 1) := by decide +kernel
theorem d_Mo_init_66 : decode b_Mo_init 66 = .ok (.iconst 0, 1) := by decide +kernel
theorem d_Mo_init_67 : decode b_Mo_init 67 = .ok (.iconst 1, 1) := by decide +kernel
theorem d_Mo_init_68 : decode b_Mo_init 68 = .ok (.iastore, 1) := by decide +kernel
theorem d_Mo_init_69 : decode b_Mo_init 69 = .ok (.dup, 1) := by decide +kernel
theorem d_Mo_init_70 : decode b_Mo_init 70 = .ok (.iconst 1, 1) := by decide +kernel
theorem d_Mo_init_71 : decode b_Mo_init 71 = .ok (.iconst 0, 1) := by decide +kernel
theorem d_Mo_init_72 : decode b_Mo_init 72 = .ok (.iastore, 1) := by decide +kernel
theorem d_Mo_init_73 : decode b_Mo_init 73 = .ok (.dup, 1) := by decide +kernel
theorem d_Mo_init_74 : decode b_Mo_init 74 = .ok (.iconst 2, 1) := by decide +kernel
theorem d_Mo_init_75 : decode b_Mo_init 75 = .ok (.iconst 0, 1) := by decide +kernel
theorem d_Mo_init_76 : decode b_Mo_init 76 = .ok (.iastore, 1) := by decide +kernel
theorem d_Mo_init_77 : decode b_Mo_init 77 = .ok (.dup, 1) := by decide +kernel
theorem d_Mo_init_78 : decode b_Mo_init 78 = .ok (.iconst 3, 1) := by decide +kernel
theorem d_Mo_init_79 : decode b_Mo_init 79 = .ok (.iconst 0, 1) := by decide +kernel
theorem d_Mo_init_80 : decode b_Mo_init 80 = .ok (.iastore, 1) := by decide +kernel
theorem d_Mo_init_81 : decode b_Mo_init 81 = .ok (.dup, 1) := by decide +kernel
theorem d_Mo_init_82 : decode b_Mo_init 82 = .ok (.iconst 4, 1) := by decide +kernel
theorem d_Mo_init_83 : decode b_Mo_init 83 = .ok (.iconst 0, 1) := by decide +kernel
theorem d_Mo_init_84 : decode b_Mo_init 84 = .ok (.iastore, 1) := by decide +kernel
theorem d_Mo_init_85 : decode b_Mo_init 85 = .ok (.dup, 1) := by decide +kernel
theorem d_Mo_init_86 : decode b_Mo_init 86 = .ok (.iconst 5, 1) := by decide +kernel
theorem d_Mo_init_87 : decode b_Mo_init 87 = .ok (.iconst 0, 1) := by decide +kernel
theorem d_Mo_init_88 : decode b_Mo_init 88 = .ok (.iastore, 1) := by decide +kernel
theorem d_Mo_init_89 : decode b_Mo_init 89 = .ok (.dup, 1) := by decide +kernel
theorem d_Mo_init_90 : decode b_Mo_init 90 = .ok (.bipush 6, 2) := by decide +kernel
theorem d_Mo_init_92 : decode b_Mo_init 92 = .ok (.iconst 0, 1) := by decide +kernel
theorem d_Mo_init_93 : decode b_Mo_init 93 = .ok (.iastore, 1) := by decide +kernel
theorem d_Mo_init_94 : decode b_Mo_init 94 = .ok (.dup, 1) := by decide +kernel
theorem d_Mo_init_95 : decode b_Mo_init 95 = .ok (.bipush 7, 2) := by decide +kernel
theorem d_Mo_init_97 : decode b_Mo_init 97 = .ok (.iconst 0, 1) := by decide +kernel
theorem d_Mo_init_98 : decode b_Mo_init 98 = .ok (.iastore, 1) := by decide +kernel
theorem d_Mo_init_99 : decode b_Mo_init 99 = .ok (.putfield 24, 3) := by decide +kernel
theorem d_Mo_init_102 : decode b_Mo_init 102 = .ok (.aload_n 0, 1) := by decide +kernel
theorem d_Mo_init_103 : decode b_Mo_init 103 = .ok (.bipush 8, 2) := by decide +kernel
theorem d_Mo_init_105 : decode b_Mo_init 105 = .ok (.newarray .int, 2) := by decide +kernel
theorem d_Mo_init_107 : decode b_Mo_init 107 = .ok (.putfield 28, 3) := by decide +kernel
theorem d_Mo_init_110 : decode b_Mo_init 110 = .ok (.aload_n 0, 1) := by decide +kernel
theorem d_Mo_init_111 : decode b_Mo_init 111 = .ok (.bipush 8, 2) := by decide +kernel
theorem d_Mo_init_113 : decode b_Mo_init 113 = .ok (.newarray .int, 2) := by decide +kernel
theorem d_Mo_init_115 : decode b_Mo_init 115 = .ok (.putfield 31, 3) := by decide +kernel
theorem d_Mo_init_118 : decode b_Mo_init 118 = .ok (.aload_n 0, 1) := by decide +kernel
theorem d_Mo_init_119 : decode b_Mo_init 119 = .ok (.bipush 8, 2) := by decide +kernel
theorem d_Mo_init_121 : decode b_Mo_init 121 = .ok (.newarray .int, 2) := by decide +kernel
theorem d_Mo_init_123 : decode b_Mo_init 123 = .ok (.putfield 34, 3) := by decide +kernel
theorem d_Mo_init_126 : decode b_Mo_init 126 = .ok (.aload_n 0, 1) := by decide +kernel
theorem d_Mo_init_127 : decode b_Mo_init 127 = .ok (.bipush 16, 2) := by decide +kernel
theorem d_Mo_init_129 : decode b_Mo_init 129 = .ok (.newarray .int, 2) := by decide +kernel
theorem d_Mo_init_131 : decode b_Mo_init 131 = .ok (.putfield 37, 3) := by decide +kernel
theorem d_Mo_init_134 : decode b_Mo_init 134 = .ok (.aload_n 0, 1) := by decide +kernel
theorem d_Mo_init_135 : decode b_Mo_init 135 = .ok (.bipush 8, 2) := by decide +kernel
theorem d_Mo_init_137 : decode b_Mo_init 137 = .ok (.newarray .int, 2) := by decide +kernel
theorem d_Mo_init_139 : decode b_Mo_init 139 = .ok (.putfield 40, 3) := by decide +kernel
theorem d_Mo_init_142 : decode b_Mo_init 142 = .ok (.aload_n 0, 1) := by decide +kernel
theorem d_Mo_init_143 : decode b_Mo_init 143 = .ok (.bipush 8, 2) := by decide +kernel
theorem d_Mo_init_145 : decode b_Mo_init 145 = .ok (.newarray .int, 2) := by decide +kernel
theorem d_Mo_init_147 : decode b_Mo_init 147 = .ok (.putfield 43, 3) := by decide +kernel
theorem d_Mo_init_150 : decode b_Mo_init 150 = .ok (.aload_n 0, 1) := by decide +kernel
theorem d_Mo_init_151 : decode b_Mo_init 151 = .ok (.bipush 8, 2) := by decide +kernel
theorem d_Mo_init_153 : decode b_Mo_init 153 = .ok (.newarray .int, 2) := by decide +kernel
theorem d_Mo_init_155 : decode b_Mo_init 155 = .ok (.putfield 46, 3) := by decide +kernel
theorem d_Mo_init_158 : decode b_Mo_init 158 = .ok (.aload_n 0, 1) := by decide +kernel
theorem d_Mo_init_159 : decode b_Mo_init 159 = .ok (.bipush 8, 2) := by decide +kernel
theorem d_Mo_init_161 : decode b_Mo_init 161 = .ok (.newarray .int, 2) := by decide +kernel
theorem d_Mo_init_163 : decode b_Mo_init 163 = .ok (.putfield 49, 3) := by decide +kernel
theorem d_Mo_init_166 : decode b_Mo_init 166 = .ok (.aload_n 0, 1) := by decide +kernel
theorem d_Mo_init_167 : decode b_Mo_init 167 = .ok (.bipush 8, 2) := by decide +kernel
theorem d_Mo_init_169 : decode b_Mo_init 169 = .ok (.newarray .int, 2) := by decide +kernel
theorem d_Mo_init_171 : decode b_Mo_init 171 = .ok (.putfield 52, 3) := by decide +kernel
theorem d_Mo_init_174 : decode b_Mo_init 174 = .ok (.aload_n 0, 1) := by decide +kernel
theorem d_Mo_init_175 : decode b_Mo_init 175 = .ok (.bipush 8, 2) := by decide +kernel
theorem d_Mo_init_177 : decode b_Mo_init 177 = .ok (.newarray .int, 2) := by decide +kernel
theorem d_Mo_init_179 : decode b_Mo_init 179 = .ok (.putfield 55, 3) := by decide +kernel
theorem d_Mo_init_182 : decode b_Mo_init 182 = .ok (.aload_n 0, 1) := by decide +kernel
theorem d_Mo_init_183 : decode b_Mo_init 183 = .ok (.bipush 8, 2) := by decide +kernel
theorem d_Mo_init_185 : decode b_Mo_init 185 = .ok (.newarray .int, 2) := by decide +kernel
theorem d_Mo_init_187 : decode b_Mo_init 187 = .ok (.putfield 58, 3) := by decide +kernel
theorem d_Mo_init_190 : decode b_Mo_init 190 = .ok (.aload_n 0, 1) := by decide +kernel
theorem d_Mo_init_191 : decode b_Mo_init 191 = .ok (.bipush 8, 2) := by decide +kernel
theorem d_Mo_init_193 : decode b_Mo_init 193 = .ok (.newarray .int, 2) := by decide +kernel
theorem d_Mo_init_195 : decode b_Mo_init 195 = .ok (.putfield 61, 3) := by decide +kernel
theorem d_Mo_init_198 : decode b_Mo_init 198 = .ok (.aload_n 0, 1) := by decide +kernel
theorem d_Mo_init_199 : decode b_Mo_init 199 = .ok (.bipush 8, 2) := by decide +kernel
theorem d_Mo_init_201 : decode b_Mo_init 201 = .ok (.newarray .int, 2) := by decide +kernel
theorem d_Mo_init_203 : decode b_Mo_init 203 = .ok (.putfield 64, 3) := by decide +kernel
theorem d_Mo_init_206 : decode b_Mo_init 206 = .ok (.aload_n 0, 1) := by decide +kernel
theorem d_Mo_init_207 : decode b_Mo_init 207 = .ok (.bipush 8, 2) := by decide +kernel
theorem d_Mo_init_209 : decode b_Mo_init 209 = .ok (.newarray .int, 2) := by decide +kernel
theorem d_Mo_init_211 : decode b_Mo_init 211 = .ok (.putfield 67, 3) := by decide +kernel
theorem d_Mo_init_214 : decode b_Mo_init 214 = .ok (.return_, 1) := by decide +kernel
section
variable {p : Program} {l : Launch} {e : Env} {R : Room} {s : State} {m : MethodId} {args : Array Value} {below : List Frame} {meth : Method} {c : Code} {cells slots : Nat} {Q : State → Prop}
set_option maxHeartbeats 4000000 in
set_option maxRecDepth 100000 in
theorem kn_rowI (hx : p.tables.exec = Jvm.exec) (hb : c.code = b_Mo_init) (hts : ∀ w ∈ w_Mo_init, w.before args s = true) (hown : s.vm.findClass R_Mo = some m.cls) (hin : meth.name = "<init>") {D : va_G} {tys : List (ClassId × FieldType)} (hK : va_K D kr_cl tys s) {cI : ClassId} (hcI : s.vm.findClass ("[" ++ FieldType.int.toString) = some cI) {N : Nat} {fs : List Value} {n : Nat} {xs : List Cell} {H0 H : Heap} {mo : Nat} {ls : Array Slot} {locs : List Loc} {pc : Nat} (h : kn_S D fs H0 H mo n xs) (hlc : ∀ q ∈ locs, mo ≤ q.base) (hl : lv_has ls 1 [(0, .ref mo)])
    {k idx : Nat} (hk : k < 20) (hlink : Cond.fieldLink R_Mo idx (F_Mo k).1 (F_Mo k).2.1 (F_Mo k).2.2.1 ∈ kt_all) (hfin : (F_Mo k).2.2.2 = true) (hdecl : (F_Mo k).1 = R_Mo) (hd : parseFieldDescriptor (F_Mo k).2.2.1 = some (.array .int)) (hkl : k < fs.length) (hcells : cells + 1 ≤ R.cells) (hslots : slots + N ≤ R.slots) {z : Int} (hN : N < 2 ^ 31) (hNb : N * componentBytes .int ≤ 536870912) (hz : (Int8.ofInt z).toInt32 = nI N) (d0 : decode b_Mo_init pc = .ok (.aload_n 0, 1)) (d1 : decode b_Mo_init (pc + 1) = .ok (.bipush z, 2)) (d2 : decode b_Mo_init (pc + 3) = .ok (.newarray .int, 2)) (d3 : decode b_Mo_init (pc + 5) = .ok (.putfield idx, 3))
    (kk : ∀ (H1 : Heap) (locs : List Loc), kn_S D (fs.set k (.ref (mo + n))) H0 H1 mo (n + 1) (xs ++ [kq_I cI N 0]) → (∀ q ∈ locs, mo ≤ q.base) → W p l e R s m args below meth c H1 locs (cells + 1) (slots + N) Q (F0 m (pc + 8) ls [])) : W p l e R s m args below meth c H locs cells slots Q (F0 m pc ls []) := by
  refine lv_aload_n hx hb d0 rfl (lv_at hl 0 rfl) ?_
  refine lv_bipush (v := nI N) hx hb d1 hz ?_
  refine kq_newa (atype := .int) (ty := .int) (h := mo + n) hx hb (hts _ (List.mem_cons_of_mem _ kt_w437)) rfl hcI (nI_pos hN) (nI_clamp hN) hNb hcells hslots h.1 d2 (fun H1 e1 z1 o1 => ?_)
  rw [kn_I0] at e1
  have h1 := h.push e1 z1 o1
  refine kq_putF hx hb hts kt_F_Mo t_Mo t_Mo_ok n_Mo hown hK h1.2.2.2.1 rfl k hk hlink hfin hin hdecl hd rfl rfl hkl d3 (fun H2 L2 hP z2 o2 hL2 => ?_)
  exact kk H2 _ (h1.put hP z2 o2) (t_lL (free := fun q => mo ≤ q) hlc (fun q h => Nat.le_of_eq (hL2 q h).symm))
set_option maxHeartbeats 4000000 in
set_option maxRecDepth 100000 in
theorem kn_rowM (hx : p.tables.exec = Jvm.exec) (hb : c.code = b_Mo_init) (hts : ∀ w ∈ w_Mo_init, w.before args s = true) (hown : s.vm.findClass R_Mo = some m.cls) (hin : meth.name = "<init>") {D : va_G} {tys : List (ClassId × FieldType)} (hK : va_K D kr_cl tys s) {cI cII : ClassId} (hcI : s.vm.findClass ("[" ++ FieldType.int.toString) = some cI) (hcII : s.vm.findClass ("[" ++ (FieldType.array .int).toString) = some cII) (hOv : (Cond.arrayOver (.array .int)).before #[] s = true) {fs : List Value} {n : Nat} {xs : List Cell} {H0 H : Heap} {mo : Nat} {ls : Array Slot} {locs : List Loc} {pc : Nat} (h : kn_S D fs H0 H mo n xs) (hlc : ∀ q ∈ locs, mo ≤ q.base) (hl : lv_has ls 1 [(0, .ref mo)])
    {k idx : Nat} (hk : k < 20) (hlink : Cond.fieldLink R_Mo idx (F_Mo k).1 (F_Mo k).2.1 (F_Mo k).2.2.1 ∈ kt_all) (hfin : (F_Mo k).2.2.2 = true) (hdecl : (F_Mo k).1 = R_Mo) (hd : parseFieldDescriptor (F_Mo k).2.2.1 = some (.array (.array .int))) (hkl : k < fs.length) (hcells : cells + 5 ≤ R.cells) (hslots : slots + 36 ≤ R.slots) (d0 : decode b_Mo_init pc = .ok (.aload_n 0, 1)) (d1 : decode b_Mo_init (pc + 1) = .ok (.iconst 4, 1)) (d2 : decode b_Mo_init (pc + 2) = .ok (.bipush 8, 2)) (d3 : decode b_Mo_init (pc + 4) = .ok (.multianewarray 7 2, 4)) (d4 : decode b_Mo_init (pc + 8) = .ok (.putfield idx, 3))
    (kk : ∀ (H1 : Heap) (locs : List Loc), kn_S D (fs.set k (.ref (mo + n))) H0 H1 mo (n + 5) (xs ++ [kn_R cII 4 4 (fun j => mo + n + 1 + j), kq_I cI 8 0, kq_I cI 8 0, kq_I cI 8 0, kq_I cI 8 0]) → (∀ q ∈ locs, mo ≤ q.base) → W p l e R s m args below meth c H1 locs (cells + 1 + 4) (slots + 4 + 4 * 8) Q (F0 m (pc + 11) ls [])) : W p l e R s m args below meth c H locs cells slots Q (F0 m pc ls []) := by
  refine lv_aload_n hx hb d0 rfl (lv_at hl 0 rfl) ?_
  refine lv_iconst (v := nI 4) hx hb d1 (by decide) ?_
  refine lv_bipush (v := nI 8) hx hb d2 (by decide) ?_
  refine kq_mna (h := mo + n) (N' := 4) (K' := 8) hx hb hown (hts _ (List.mem_cons_of_mem _ kt_w374)) (over_moved (Vm.Alike.refl _) hOv) (hts _ (List.mem_cons_of_mem _ kt_w437)) hcII hcI (nI_pos (by decide)) (nI_pos (by decide)) (nI_clamp (by decide)) (nI_clamp (by decide)) (by decide) (by decide) (by decide) rfl rfl (by omega) (by omega) h.1 d3 (fun H1 z1 o1 e1 r1 => ?_)
  rw [kn_I0] at r1
  have h1 := h.five z1 o1 e1 r1
  refine kq_putF hx hb hts kt_F_Mo t_Mo t_Mo_ok n_Mo hown hK h1.2.2.2.1 rfl k hk hlink hfin hin hdecl hd rfl rfl hkl d4 (fun H2 L2 hP z2 o2 hL2 => ?_)
  exact kk H2 _ (h1.put hP z2 o2) (t_lL (free := fun q => mo ≤ q) hlc (fun q h => Nat.le_of_eq (hL2 q h).symm))
set_option maxHeartbeats 4000000 in
set_option maxRecDepth 100000 in
theorem lz_Mo_init (hx : p.tables.exec = Jvm.exec) (hb : c.code = b_Mo_init) (hts : ∀ w ∈ w_Mo_init, w.before args s = true) (hown : s.vm.findClass R_Mo = some m.cls) (hin : meth.name = "<init>") {D : va_G} {tys : List (ClassId × FieldType)} (hK : va_K D kr_cl tys s) {cZ : ClassId} (hcZ : s.vm.findClass ("[" ++ FieldType.boolean.toString) = some cZ) (hTZ : ArrOfT s cZ .boolean) {fs : List Value} {xs : List Cell} {H0 H : Heap} {mo : Nat} {ls : Array Slot} {locs : List Loc} (h : kn_S D fs H0 H mo 16 xs) (hlc : ∀ q ∈ locs, mo ≤ q.base) (hl : lv_has ls 1 [(0, .ref mo)]) (hkl : 3 < fs.length) (hcells : cells + 1 ≤ R.cells) (hslots : slots + 4 ≤ R.slots)
    (kk : ∀ (H1 : Heap) (locs : List Loc) (bs : Nat → Bool), (∀ j, j < 4 → bs j = true) → kn_S D (fs.set 3 (.ref (mo + 16))) H0 H1 mo 17 (xs ++ [kq_B cZ bs]) → (∀ q ∈ locs, mo ≤ q.base) → W p l e R s m args below meth c H1 locs (cells + 1) (slots + 4) Q (F0 m 60 ls [])) : W p l e R s m args below meth c H locs cells slots Q (F0 m 37 ls []) := by
  refine lv_aload_n hx hb d_Mo_init_37 rfl (lv_at hl 0 rfl) ?_
  refine lv_iconst (v := nI 4) hx hb d_Mo_init_38 (by decide) ?_
  refine kq_newa (atype := .boolean) (ty := .boolean) (h := mo + 16) hx hb (hts _ (List.mem_cons_of_mem _ kt_w438)) rfl hcZ (nI_pos (by decide)) (nI_clamp (by decide)) (by decide) hcells hslots h.1 d_Mo_init_39 (fun H1 eB z1 o1 => ?_)
  rw [kn_Z0] at eB
  have hxl : xs.length = 15 := by have := h.2.1; omega
  have h0 := h.push eB z1 o1
  have es : ∀ x y : Cell, (xs ++ [x]).set 15 y = xs ++ [y] := fun x y => by rw [List.set_append_right _ _ (by omega), hxl]; rfl
  refine lv_dup hx hb d_Mo_init_41 rfl ?_
  refine lv_iconst (v := nI 0) hx hb d_Mo_init_42 (by decide) ?_
  refine lv_iconst (v := nI 1) hx hb d_Mo_init_43 (by decide) ?_
  refine kq_ri (show nI 1 = kq_z true from rfl) ?_
  refine kq_zast hx hb hTZ eB (j := 0) (by decide) d_Mo_init_44 (fun H2 eB z2 o2 => ?_)
  have h1 := h0.set (j := 15) eB z2 o2
  rw [es] at h1
  have hlc := t_lc (free := fun q => mo ≤ q) (a := mo + 16) (i := 0) hlc (by omega)
  refine lv_dup hx hb d_Mo_init_45 rfl ?_
  refine lv_iconst (v := nI 1) hx hb d_Mo_init_46 (by decide) ?_
  refine lv_iconst (v := nI 1) hx hb d_Mo_init_47 (by decide) ?_
  refine kq_ri (show nI 1 = kq_z true from rfl) ?_
  refine kq_zast hx hb hTZ eB (j := 1) (by decide) d_Mo_init_48 (fun H3 eB z3 o3 => ?_)
  have h2 := h1.set (j := 15) eB z3 o3
  rw [es] at h2
  have hlc := t_lc (free := fun q => mo ≤ q) (a := mo + 16) (i := 1) hlc (by omega)
  refine lv_dup hx hb d_Mo_init_49 rfl ?_
  refine lv_iconst (v := nI 2) hx hb d_Mo_init_50 (by decide) ?_
  refine lv_iconst (v := nI 1) hx hb d_Mo_init_51 (by decide) ?_
  refine kq_ri (show nI 1 = kq_z true from rfl) ?_
  refine kq_zast hx hb hTZ eB (j := 2) (by decide) d_Mo_init_52 (fun H4 eB z4 o4 => ?_)
  have h3 := h2.set (j := 15) eB z4 o4
  rw [es] at h3
  have hlc := t_lc (free := fun q => mo ≤ q) (a := mo + 16) (i := 2) hlc (by omega)
  refine lv_dup hx hb d_Mo_init_53 rfl ?_
  refine lv_iconst (v := nI 3) hx hb d_Mo_init_54 (by decide) ?_
  refine lv_iconst (v := nI 1) hx hb d_Mo_init_55 (by decide) ?_
  refine kq_ri (show nI 1 = kq_z true from rfl) ?_
  refine kq_zast hx hb hTZ eB (j := 3) (by decide) d_Mo_init_56 (fun H5 eB z5 o5 => ?_)
  have h4 := h3.set (j := 15) eB z5 o5
  rw [es] at h4
  have hlc := t_lc (free := fun q => mo ≤ q) (a := mo + 16) (i := 3) hlc (by omega)
  refine kq_putF hx hb hts kt_F_Mo t_Mo t_Mo_ok n_Mo hown hK h4.2.2.2.1 rfl 3 (by decide) kt_w379 rfl hin rfl (ty := t_Mo 3) (by decide +kernel) rfl rfl hkl d_Mo_init_57 (fun H9 L9 hP z9 o9 hL9 => ?_)
  exact kk H9 _ _ (fun j hj => by rcases (show j = 0 ∨ j = 1 ∨ j = 2 ∨ j = 3 by omega) with rfl | rfl | rfl | rfl <;> rfl) (h4.put hP z9 o9) (t_lL (free := fun q => mo ≤ q) hlc (fun q h => Nat.le_of_eq (hL9 q h).symm))
set_option maxHeartbeats 4000000 in
set_option maxRecDepth 100000 in
theorem lo_Mo_init (hx : p.tables.exec = Jvm.exec) (hb : c.code = b_Mo_init) (hts : ∀ w ∈ w_Mo_init, w.before args s = true) (hown : s.vm.findClass R_Mo = some m.cls) (hin : meth.name = "<init>") {D : va_G} {tys : List (ClassId × FieldType)} (hK : va_K D kr_cl tys s) {cI : ClassId} (hcI : s.vm.findClass ("[" ++ FieldType.int.toString) = some cI) (hTI : ArrOfT s cI .int) {fs : List Value} {xs : List Cell} {H0 H : Heap} {mo : Nat} {ls : Array Slot} {locs : List Loc} (h : kn_S D fs H0 H mo 17 xs) (hlc : ∀ q ∈ locs, mo ≤ q.base) (hl : lv_has ls 1 [(0, .ref mo)]) (hkl : 4 < fs.length) (hcells : cells + 1 ≤ R.cells) (hslots : slots + 8 ≤ R.slots)
    (kk : ∀ (H1 : Heap) (locs : List Loc), kn_S D (fs.set 4 (.ref (mo + 17))) H0 H1 mo 18 (xs ++ [kq_I cI 8 1]) → (∀ q ∈ locs, mo ≤ q.base) → W p l e R s m args below meth c H1 locs (cells + 1) (slots + 8) Q (F0 m 102 ls [])) : W p l e R s m args below meth c H locs cells slots Q (F0 m 60 ls []) := by
  refine lv_aload_n hx hb d_Mo_init_60 rfl (lv_at hl 0 rfl) ?_
  refine lv_bipush (v := nI 8) hx hb d_Mo_init_61 (by decide) ?_
  refine kq_newa (atype := .int) (ty := .int) (h := mo + 17) hx hb (hts _ (List.mem_cons_of_mem _ kt_w437)) rfl hcI (nI_pos (by decide)) (nI_clamp (by decide)) (by decide) hcells hslots h.1 d_Mo_init_63 (fun H1 e1 z1 o1 => ?_)
  rw [kn_I0] at e1
  have hxl : xs.length = 16 := by have := h.2.1; omega
  have h0 := h.push e1 z1 o1
  have es : ∀ x y : Cell, (xs ++ [x]).set 16 y = xs ++ [y] := fun x y => by rw [List.set_append_right _ _ (by omega), hxl]; rfl
  have eO := e1
  refine lv_dup hx hb d_Mo_init_65 rfl ?_
  refine lv_iconst (v := nI 0) hx hb d_Mo_init_66 (by decide) ?_
  refine lv_iconst (v := nI 1) hx hb d_Mo_init_67 (by decide) ?_
  refine kq_iast hx hb (hTI) (eO) ((by decide)) (by decide) ((by decide)) d_Mo_init_68 ?_
  rw [kn_one0]
  have eP := eO
  have oP : ∀ q : Nat, q ≠ mo + 17 → (kq_set H1 (mo + 17) (kq_I cI 8 1))[q]? = H1[q]? := fun q hq => kq_set_ne hq
  have zP := kq_set_size H1 (mo + 17) (kq_I cI 8 1)
  have eO : (kq_set H1 (mo + 17) (kq_I cI 8 1))[mo + 17]? = some (kq_I cI 8 1) := kq_set_at eP
  generalize kq_set H1 (mo + 17) (kq_I cI 8 1) = H2 at oP zP eO ⊢
  have h1 := h0.set (j := 16) eO zP oP
  rw [es] at h1
  clear eP oP zP
  have hlc := t_lc (free := fun q => mo ≤ q) (a := mo + 17) (i := 0) hlc (by omega)
  refine lv_dup hx hb d_Mo_init_69 rfl ?_
  refine lv_iconst (v := nI 1) hx hb d_Mo_init_70 (by decide) ?_
  refine lv_iconst (v := nI 0) hx hb d_Mo_init_71 (by decide) ?_
  refine kq_iast hx hb (hTI) (eO) ((by decide)) (by decide) ((by decide)) d_Mo_init_72 ?_
  rw [kn_one 1 (by decide) (by decide)]
  have eP := eO
  have oP : ∀ q : Nat, q ≠ mo + 17 → (kq_set H2 (mo + 17) (kq_I cI 8 1))[q]? = H2[q]? := fun q hq => kq_set_ne hq
  have zP := kq_set_size H2 (mo + 17) (kq_I cI 8 1)
  have eO : (kq_set H2 (mo + 17) (kq_I cI 8 1))[mo + 17]? = some (kq_I cI 8 1) := kq_set_at eP
  generalize kq_set H2 (mo + 17) (kq_I cI 8 1) = H3 at oP zP eO ⊢
  have h2 := h1.set (j := 16) eO zP oP
  rw [es] at h2
  clear eP oP zP
  have hlc := t_lc (free := fun q => mo ≤ q) (a := mo + 17) (i := 1) hlc (by omega)
  refine lv_dup hx hb d_Mo_init_73 rfl ?_
  refine lv_iconst (v := nI 2) hx hb d_Mo_init_74 (by decide) ?_
  refine lv_iconst (v := nI 0) hx hb d_Mo_init_75 (by decide) ?_
  refine kq_iast hx hb (hTI) (eO) ((by decide)) (by decide) ((by decide)) d_Mo_init_76 ?_
  rw [kn_one 2 (by decide) (by decide)]
  have eP := eO
  have oP : ∀ q : Nat, q ≠ mo + 17 → (kq_set H3 (mo + 17) (kq_I cI 8 1))[q]? = H3[q]? := fun q hq => kq_set_ne hq
  have zP := kq_set_size H3 (mo + 17) (kq_I cI 8 1)
  have eO : (kq_set H3 (mo + 17) (kq_I cI 8 1))[mo + 17]? = some (kq_I cI 8 1) := kq_set_at eP
  generalize kq_set H3 (mo + 17) (kq_I cI 8 1) = H4 at oP zP eO ⊢
  have h3 := h2.set (j := 16) eO zP oP
  rw [es] at h3
  clear eP oP zP
  have hlc := t_lc (free := fun q => mo ≤ q) (a := mo + 17) (i := 2) hlc (by omega)
  refine lv_dup hx hb d_Mo_init_77 rfl ?_
  refine lv_iconst (v := nI 3) hx hb d_Mo_init_78 (by decide) ?_
  refine lv_iconst (v := nI 0) hx hb d_Mo_init_79 (by decide) ?_
  refine kq_iast hx hb (hTI) (eO) ((by decide)) (by decide) ((by decide)) d_Mo_init_80 ?_
  rw [kn_one 3 (by decide) (by decide)]
  have eP := eO
  have oP : ∀ q : Nat, q ≠ mo + 17 → (kq_set H4 (mo + 17) (kq_I cI 8 1))[q]? = H4[q]? := fun q hq => kq_set_ne hq
  have zP := kq_set_size H4 (mo + 17) (kq_I cI 8 1)
  have eO : (kq_set H4 (mo + 17) (kq_I cI 8 1))[mo + 17]? = some (kq_I cI 8 1) := kq_set_at eP
  generalize kq_set H4 (mo + 17) (kq_I cI 8 1) = H5 at oP zP eO ⊢
  have h4 := h3.set (j := 16) eO zP oP
  rw [es] at h4
  clear eP oP zP
  have hlc := t_lc (free := fun q => mo ≤ q) (a := mo + 17) (i := 3) hlc (by omega)
  refine lv_dup hx hb d_Mo_init_81 rfl ?_
  refine lv_iconst (v := nI 4) hx hb d_Mo_init_82 (by decide) ?_
  refine lv_iconst (v := nI 0) hx hb d_Mo_init_83 (by decide) ?_
  refine kq_iast hx hb (hTI) (eO) ((by decide)) (by decide) ((by decide)) d_Mo_init_84 ?_
  rw [kn_one 4 (by decide) (by decide)]
  have eP := eO
  have oP : ∀ q : Nat, q ≠ mo + 17 → (kq_set H5 (mo + 17) (kq_I cI 8 1))[q]? = H5[q]? := fun q hq => kq_set_ne hq
  have zP := kq_set_size H5 (mo + 17) (kq_I cI 8 1)
  have eO : (kq_set H5 (mo + 17) (kq_I cI 8 1))[mo + 17]? = some (kq_I cI 8 1) := kq_set_at eP
  generalize kq_set H5 (mo + 17) (kq_I cI 8 1) = H6 at oP zP eO ⊢
  have h5 := h4.set (j := 16) eO zP oP
  rw [es] at h5
  clear eP oP zP
  have hlc := t_lc (free := fun q => mo ≤ q) (a := mo + 17) (i := 4) hlc (by omega)
  refine lv_dup hx hb d_Mo_init_85 rfl ?_
  refine lv_iconst (v := nI 5) hx hb d_Mo_init_86 (by decide) ?_
  refine lv_iconst (v := nI 0) hx hb d_Mo_init_87 (by decide) ?_
  refine kq_iast hx hb (hTI) (eO) ((by decide)) (by decide) ((by decide)) d_Mo_init_88 ?_
  rw [kn_one 5 (by decide) (by decide)]
  have eP := eO
  have oP : ∀ q : Nat, q ≠ mo + 17 → (kq_set H6 (mo + 17) (kq_I cI 8 1))[q]? = H6[q]? := fun q hq => kq_set_ne hq
  have zP := kq_set_size H6 (mo + 17) (kq_I cI 8 1)
  have eO : (kq_set H6 (mo + 17) (kq_I cI 8 1))[mo + 17]? = some (kq_I cI 8 1) := kq_set_at eP
  generalize kq_set H6 (mo + 17) (kq_I cI 8 1) = H7 at oP zP eO ⊢
  have h6 := h5.set (j := 16) eO zP oP
  rw [es] at h6
  clear eP oP zP
  have hlc := t_lc (free := fun q => mo ≤ q) (a := mo + 17) (i := 5) hlc (by omega)
  refine lv_dup hx hb d_Mo_init_89 rfl ?_
  refine lv_bipush (v := nI 6) hx hb d_Mo_init_90 (by decide) ?_
  refine lv_iconst (v := nI 0) hx hb d_Mo_init_92 (by decide) ?_
  refine kq_iast hx hb (hTI) (eO) ((by decide)) (by decide) ((by decide)) d_Mo_init_93 ?_
  rw [kn_one 6 (by decide) (by decide)]
  have eP := eO
  have oP : ∀ q : Nat, q ≠ mo + 17 → (kq_set H7 (mo + 17) (kq_I cI 8 1))[q]? = H7[q]? := fun q hq => kq_set_ne hq
  have zP := kq_set_size H7 (mo + 17) (kq_I cI 8 1)
  have eO : (kq_set H7 (mo + 17) (kq_I cI 8 1))[mo + 17]? = some (kq_I cI 8 1) := kq_set_at eP
  generalize kq_set H7 (mo + 17) (kq_I cI 8 1) = H8 at oP zP eO ⊢
  have h7 := h6.set (j := 16) eO zP oP
  rw [es] at h7
  clear eP oP zP
  have hlc := t_lc (free := fun q => mo ≤ q) (a := mo + 17) (i := 6) hlc (by omega)
  refine lv_dup hx hb d_Mo_init_94 rfl ?_
  refine lv_bipush (v := nI 7) hx hb d_Mo_init_95 (by decide) ?_
  refine lv_iconst (v := nI 0) hx hb d_Mo_init_97 (by decide) ?_
  refine kq_iast hx hb (hTI) (eO) ((by decide)) (by decide) ((by decide)) d_Mo_init_98 ?_
  rw [kn_one 7 (by decide) (by decide)]
  have eP := eO
  have oP : ∀ q : Nat, q ≠ mo + 17 → (kq_set H8 (mo + 17) (kq_I cI 8 1))[q]? = H8[q]? := fun q hq => kq_set_ne hq
  have zP := kq_set_size H8 (mo + 17) (kq_I cI 8 1)
  have eO : (kq_set H8 (mo + 17) (kq_I cI 8 1))[mo + 17]? = some (kq_I cI 8 1) := kq_set_at eP
  generalize kq_set H8 (mo + 17) (kq_I cI 8 1) = H9 at oP zP eO ⊢
  have h8 := h7.set (j := 16) eO zP oP
  rw [es] at h8
  clear eP oP zP
  have hlc := t_lc (free := fun q => mo ≤ q) (a := mo + 17) (i := 7) hlc (by omega)
  refine kq_putF hx hb hts kt_F_Mo t_Mo t_Mo_ok n_Mo hown hK h8.2.2.2.1 rfl 4 (by decide) kt_w380 rfl hin rfl (ty := t_Mo 4) (by decide +kernel) rfl rfl hkl d_Mo_init_99 (fun H19 L19 hP z19 o19 hL19 => ?_)
  exact kk H19 _ (h8.put hP z19 o19) (t_lL (free := fun q => mo ≤ q) hlc (fun q h => Nat.le_of_eq (hL19 q h).symm))
end
set_option maxHeartbeats 4000000 in
set_option maxRecDepth 100000 in
theorem c_Mo_init (l : Launch) (D : va_G) (tys : List (ClassId × FieldType)) (cI cII cZ : ClassId) (tI tII tZ : Nat) (hI0 : tys[tI]? = some (cI, .int)) (hII0 : tys[tII]? = some (cII, .array .int)) (hZ0 : tys[tZ]? = some (cZ, .boolean)) (H : Heap) (mo : Nat) (hz : H.size = mo + 1) (hP : va_P D kr_cl [(mo, .inr (4, [.null, .null, .null, .null, .null, .null, .null, .null, .null, .null, .null, .null, .null, .null, .null, .null, .null, .int 0, .null, .null]))] H) : Met l y_Mo_init w_Mo_init ({ frames := 1, cells := 31, slots := 240, locals := 12 }) (kq_P [.ref mo] H (kn_MB D tys)) (kq_Q (fun o1 H1 => o1 = none ∧ H1.size = mo + 32 ∧ (∀ q : Nat, q < mo → H1[q]? = H[q]?) ∧ kn_mo D cI cII cZ H1 mo)) 31 240 (fun q => mo ≤ q) := by
  refine Met.ofW (cc := b_Mo_init) (maxL := 1) (ret := none) (by decide) rfl ?_
  intro p e s m args below meth c s₁ B0 hml hv
  obtain ⟨rfl, hH, hK, hOv⟩ := hv
  have hx := B0.exec
  have hb := B0.bytes
  have hret := B0.returns
  have hts := atoms_spec (ws := w_Mo_init) B0.pre
  have hown : s.vm.findClass R_Mo = some m.cls := findClass_of_methodNamed B0.named
  have hlocks := B0.notSynchronized
  rw [hH]
  have hl := lv_entry ([.ref mo]) (n := 1) (Nat.le_of_ble_eq_true rfl)
  rw [lg_entry_eq]
  generalize (lg_sl ([.ref mo]) ++ List.replicate (1 - (lg_sl ([.ref mo])).length) Slot.unset).toArray = ls at hl ⊢
  have hl : lv_has ls 1 [(0, .ref mo)] := hl
  have hcI : s.vm.findClass ("[" ++ FieldType.int.toString) = some cI := (hK.2 tI _ hI0).2
  have hcZ : s.vm.findClass ("[" ++ FieldType.boolean.toString) = some cZ := (hK.2 tZ _ hZ0).2
  have hcII : s.vm.findClass ("[" ++ (FieldType.array .int).toString) = some cII := (hK.2 tII _ hII0).2
  have hTI : ArrOfT s cI .int := (hK.2 tI _ hI0).1
  have hTZ : ArrOfT s cZ .boolean := (hK.2 tZ _ hZ0).1
  have hin : meth.name = "<init>" := (name_of_methodNamed B0.named B0.method).1
  have hlc : ∀ q ∈ ([] : List Loc), mo ≤ q.base := fun q h => by cases h
  have kp : ∀ q : Nat, q < mo → H[q]? = H[q]? := fun _ _ => rfl
  have hC := kn_C.nil H mo
  refine lv_aload_n hx hb d_Mo_init_0 rfl (lv_at hl 0 rfl) ?_
  refine kq_obj hx hb (by rw [hml]; exact hl.1.symm) hts hown kt_w373 (Nat.le_of_ble_eq_true rfl) (Nat.le_of_ble_eq_true rfl) d_Mo_init_1 ?_
  have s0 : kn_S D [.null, .null, .null, .null, .null, .null, .null, .null, .null, .null, .null, .null, .null, .null, .null, .null, .null, .int 0, .null, .null] H H mo 1 [] := ⟨hz, rfl, kp, hP, hC⟩
  have L0 := hlc
  clear kp hC hP hlc hz
  refine kn_rowM hx hb hts hown hin hK hcI hcII hOv s0 L0 hl (k := 0) (by decide) kt_w376 rfl rfl (by decide +kernel) (Nat.le_of_ble_eq_true rfl) (Nat.le_of_ble_eq_true rfl) (Nat.le_of_ble_eq_true rfl) d_Mo_init_4 d_Mo_init_5 d_Mo_init_6 d_Mo_init_8 d_Mo_init_12 (fun H1 locs1 s1 L1 => ?_)
  clear s0 L0
  have s1 : kn_S D [.ref (mo + 1), .null, .null, .null, .null, .null, .null, .null, .null, .null, .null, .null, .null, .null, .null, .null, .null, .int 0, .null, .null] H H1 mo 6 ([kn_R cII 4 4 (fun j => mo + 1 + 1 + j), kq_I cI 8 0, kq_I cI 8 0, kq_I cI 8 0, kq_I cI 8 0]) := s1
  refine kn_rowM hx hb hts hown hin hK hcI hcII hOv s1 L1 hl (k := 1) (by decide) kt_w377 rfl rfl (by decide +kernel) (Nat.le_of_ble_eq_true rfl) (Nat.le_of_ble_eq_true rfl) (Nat.le_of_ble_eq_true rfl) d_Mo_init_15 d_Mo_init_16 d_Mo_init_17 d_Mo_init_19 d_Mo_init_23 (fun H2 locs2 s2 L2 => ?_)
  clear s1 L1
  have s2 : kn_S D [.ref (mo + 1), .ref (mo + 6), .null, .null, .null, .null, .null, .null, .null, .null, .null, .null, .null, .null, .null, .null, .null, .int 0, .null, .null] H H2 mo 11 ([kn_R cII 4 4 (fun j => mo + 1 + 1 + j), kq_I cI 8 0, kq_I cI 8 0, kq_I cI 8 0, kq_I cI 8 0, kn_R cII 4 4 (fun j => mo + 6 + 1 + j), kq_I cI 8 0, kq_I cI 8 0, kq_I cI 8 0, kq_I cI 8 0]) := s2
  refine kn_rowM hx hb hts hown hin hK hcI hcII hOv s2 L2 hl (k := 2) (by decide) kt_w378 rfl rfl (by decide +kernel) (Nat.le_of_ble_eq_true rfl) (Nat.le_of_ble_eq_true rfl) (Nat.le_of_ble_eq_true rfl) d_Mo_init_26 d_Mo_init_27 d_Mo_init_28 d_Mo_init_30 d_Mo_init_34 (fun H3 locs3 s3 L3 => ?_)
  clear s2 L2
  have s3 : kn_S D [.ref (mo + 1), .ref (mo + 6), .ref (mo + 11), .null, .null, .null, .null, .null, .null, .null, .null, .null, .null, .null, .null, .null, .null, .int 0, .null, .null] H H3 mo 16 ([kn_R cII 4 4 (fun j => mo + 1 + 1 + j), kq_I cI 8 0, kq_I cI 8 0, kq_I cI 8 0, kq_I cI 8 0, kn_R cII 4 4 (fun j => mo + 6 + 1 + j), kq_I cI 8 0, kq_I cI 8 0, kq_I cI 8 0, kq_I cI 8 0, kn_R cII 4 4 (fun j => mo + 11 + 1 + j), kq_I cI 8 0, kq_I cI 8 0, kq_I cI 8 0, kq_I cI 8 0]) := s3
  refine lz_Mo_init hx hb hts hown hin hK hcZ hTZ s3 L3 hl (Nat.le_of_ble_eq_true rfl) (Nat.le_of_ble_eq_true rfl) (Nat.le_of_ble_eq_true rfl) (fun H4 locs4 bs hbs s4 L4 => ?_)
  clear s3 L3
  have s4 : kn_S D [.ref (mo + 1), .ref (mo + 6), .ref (mo + 11), .ref (mo + 16), .null, .null, .null, .null, .null, .null, .null, .null, .null, .null, .null, .null, .null, .int 0, .null, .null] H H4 mo 17 ([kn_R cII 4 4 (fun j => mo + 1 + 1 + j), kq_I cI 8 0, kq_I cI 8 0, kq_I cI 8 0, kq_I cI 8 0, kn_R cII 4 4 (fun j => mo + 6 + 1 + j), kq_I cI 8 0, kq_I cI 8 0, kq_I cI 8 0, kq_I cI 8 0, kn_R cII 4 4 (fun j => mo + 11 + 1 + j), kq_I cI 8 0, kq_I cI 8 0, kq_I cI 8 0, kq_I cI 8 0, kq_B cZ bs]) := s4
  refine lo_Mo_init hx hb hts hown hin hK hcI hTI s4 L4 hl (Nat.le_of_ble_eq_true rfl) (Nat.le_of_ble_eq_true rfl) (Nat.le_of_ble_eq_true rfl) (fun H5 locs5 s5 L5 => ?_)
  clear s4 L4
  have s5 : kn_S D [.ref (mo + 1), .ref (mo + 6), .ref (mo + 11), .ref (mo + 16), .ref (mo + 17), .null, .null, .null, .null, .null, .null, .null, .null, .null, .null, .null, .null, .int 0, .null, .null] H H5 mo 18 ([kn_R cII 4 4 (fun j => mo + 1 + 1 + j), kq_I cI 8 0, kq_I cI 8 0, kq_I cI 8 0, kq_I cI 8 0, kn_R cII 4 4 (fun j => mo + 6 + 1 + j), kq_I cI 8 0, kq_I cI 8 0, kq_I cI 8 0, kq_I cI 8 0, kn_R cII 4 4 (fun j => mo + 11 + 1 + j), kq_I cI 8 0, kq_I cI 8 0, kq_I cI 8 0, kq_I cI 8 0, kq_B cZ bs, kq_I cI 8 1]) := s5
  refine kn_rowI hx hb hts hown hin hK hcI (N := 8) s5 L5 hl (k := 5) (by decide) kt_w381 rfl rfl (by decide +kernel) (Nat.le_of_ble_eq_true rfl) (Nat.le_of_ble_eq_true rfl) (Nat.le_of_ble_eq_true rfl) (by decide) (by decide) (by decide) d_Mo_init_102 d_Mo_init_103 d_Mo_init_105 d_Mo_init_107 (fun H6 locs6 s6 L6 => ?_)
  clear s5 L5
  have s6 : kn_S D [.ref (mo + 1), .ref (mo + 6), .ref (mo + 11), .ref (mo + 16), .ref (mo + 17), .ref (mo + 18), .null, .null, .null, .null, .null, .null, .null, .null, .null, .null, .null, .int 0, .null, .null] H H6 mo 19 ([kn_R cII 4 4 (fun j => mo + 1 + 1 + j), kq_I cI 8 0, kq_I cI 8 0, kq_I cI 8 0, kq_I cI 8 0, kn_R cII 4 4 (fun j => mo + 6 + 1 + j), kq_I cI 8 0, kq_I cI 8 0, kq_I cI 8 0, kq_I cI 8 0, kn_R cII 4 4 (fun j => mo + 11 + 1 + j), kq_I cI 8 0, kq_I cI 8 0, kq_I cI 8 0, kq_I cI 8 0, kq_B cZ bs, kq_I cI 8 1, kq_I cI 8 0]) := s6
  refine kn_rowI hx hb hts hown hin hK hcI (N := 8) s6 L6 hl (k := 6) (by decide) kt_w382 rfl rfl (by decide +kernel) (Nat.le_of_ble_eq_true rfl) (Nat.le_of_ble_eq_true rfl) (Nat.le_of_ble_eq_true rfl) (by decide) (by decide) (by decide) d_Mo_init_110 d_Mo_init_111 d_Mo_init_113 d_Mo_init_115 (fun H7 locs7 s7 L7 => ?_)
  clear s6 L6
  have s7 : kn_S D [.ref (mo + 1), .ref (mo + 6), .ref (mo + 11), .ref (mo + 16), .ref (mo + 17), .ref (mo + 18), .ref (mo + 19), .null, .null, .null, .null, .null, .null, .null, .null, .null, .null, .int 0, .null, .null] H H7 mo 20 ([kn_R cII 4 4 (fun j => mo + 1 + 1 + j), kq_I cI 8 0, kq_I cI 8 0, kq_I cI 8 0, kq_I cI 8 0, kn_R cII 4 4 (fun j => mo + 6 + 1 + j), kq_I cI 8 0, kq_I cI 8 0, kq_I cI 8 0, kq_I cI 8 0, kn_R cII 4 4 (fun j => mo + 11 + 1 + j), kq_I cI 8 0, kq_I cI 8 0, kq_I cI 8 0, kq_I cI 8 0, kq_B cZ bs, kq_I cI 8 1, kq_I cI 8 0, kq_I cI 8 0]) := s7
  refine kn_rowI hx hb hts hown hin hK hcI (N := 8) s7 L7 hl (k := 7) (by decide) kt_w383 rfl rfl (by decide +kernel) (Nat.le_of_ble_eq_true rfl) (Nat.le_of_ble_eq_true rfl) (Nat.le_of_ble_eq_true rfl) (by decide) (by decide) (by decide) d_Mo_init_118 d_Mo_init_119 d_Mo_init_121 d_Mo_init_123 (fun H8 locs8 s8 L8 => ?_)
  clear s7 L7
  have s8 : kn_S D [.ref (mo + 1), .ref (mo + 6), .ref (mo + 11), .ref (mo + 16), .ref (mo + 17), .ref (mo + 18), .ref (mo + 19), .ref (mo + 20), .null, .null, .null, .null, .null, .null, .null, .null, .null, .int 0, .null, .null] H H8 mo 21 ([kn_R cII 4 4 (fun j => mo + 1 + 1 + j), kq_I cI 8 0, kq_I cI 8 0, kq_I cI 8 0, kq_I cI 8 0, kn_R cII 4 4 (fun j => mo + 6 + 1 + j), kq_I cI 8 0, kq_I cI 8 0, kq_I cI 8 0, kq_I cI 8 0, kn_R cII 4 4 (fun j => mo + 11 + 1 + j), kq_I cI 8 0, kq_I cI 8 0, kq_I cI 8 0, kq_I cI 8 0, kq_B cZ bs, kq_I cI 8 1, kq_I cI 8 0, kq_I cI 8 0, kq_I cI 8 0]) := s8
  refine kn_rowI hx hb hts hown hin hK hcI (N := 16) s8 L8 hl (k := 8) (by decide) kt_w384 rfl rfl (by decide +kernel) (Nat.le_of_ble_eq_true rfl) (Nat.le_of_ble_eq_true rfl) (Nat.le_of_ble_eq_true rfl) (by decide) (by decide) (by decide) d_Mo_init_126 d_Mo_init_127 d_Mo_init_129 d_Mo_init_131 (fun H9 locs9 s9 L9 => ?_)
  clear s8 L8
  have s9 : kn_S D [.ref (mo + 1), .ref (mo + 6), .ref (mo + 11), .ref (mo + 16), .ref (mo + 17), .ref (mo + 18), .ref (mo + 19), .ref (mo + 20), .ref (mo + 21), .null, .null, .null, .null, .null, .null, .null, .null, .int 0, .null, .null] H H9 mo 22 ([kn_R cII 4 4 (fun j => mo + 1 + 1 + j), kq_I cI 8 0, kq_I cI 8 0, kq_I cI 8 0, kq_I cI 8 0, kn_R cII 4 4 (fun j => mo + 6 + 1 + j), kq_I cI 8 0, kq_I cI 8 0, kq_I cI 8 0, kq_I cI 8 0, kn_R cII 4 4 (fun j => mo + 11 + 1 + j), kq_I cI 8 0, kq_I cI 8 0, kq_I cI 8 0, kq_I cI 8 0, kq_B cZ bs, kq_I cI 8 1, kq_I cI 8 0, kq_I cI 8 0, kq_I cI 8 0, kq_I cI 16 0]) := s9
  refine kn_rowI hx hb hts hown hin hK hcI (N := 8) s9 L9 hl (k := 9) (by decide) kt_w385 rfl rfl (by decide +kernel) (Nat.le_of_ble_eq_true rfl) (Nat.le_of_ble_eq_true rfl) (Nat.le_of_ble_eq_true rfl) (by decide) (by decide) (by decide) d_Mo_init_134 d_Mo_init_135 d_Mo_init_137 d_Mo_init_139 (fun H10 locs10 s10 L10 => ?_)
  clear s9 L9
  have s10 : kn_S D [.ref (mo + 1), .ref (mo + 6), .ref (mo + 11), .ref (mo + 16), .ref (mo + 17), .ref (mo + 18), .ref (mo + 19), .ref (mo + 20), .ref (mo + 21), .ref (mo + 22), .null, .null, .null, .null, .null, .null, .null, .int 0, .null, .null] H H10 mo 23 ([kn_R cII 4 4 (fun j => mo + 1 + 1 + j), kq_I cI 8 0, kq_I cI 8 0, kq_I cI 8 0, kq_I cI 8 0, kn_R cII 4 4 (fun j => mo + 6 + 1 + j), kq_I cI 8 0, kq_I cI 8 0, kq_I cI 8 0, kq_I cI 8 0, kn_R cII 4 4 (fun j => mo + 11 + 1 + j), kq_I cI 8 0, kq_I cI 8 0, kq_I cI 8 0, kq_I cI 8 0, kq_B cZ bs, kq_I cI 8 1, kq_I cI 8 0, kq_I cI 8 0, kq_I cI 8 0, kq_I cI 16 0, kq_I cI 8 0]) := s10
  refine kn_rowI hx hb hts hown hin hK hcI (N := 8) s10 L10 hl (k := 10) (by decide) kt_w386 rfl rfl (by decide +kernel) (Nat.le_of_ble_eq_true rfl) (Nat.le_of_ble_eq_true rfl) (Nat.le_of_ble_eq_true rfl) (by decide) (by decide) (by decide) d_Mo_init_142 d_Mo_init_143 d_Mo_init_145 d_Mo_init_147 (fun H11 locs11 s11 L11 => ?_)
  clear s10 L10
  have s11 : kn_S D [.ref (mo + 1), .ref (mo + 6), .ref (mo + 11), .ref (mo + 16), .ref (mo + 17), .ref (mo + 18), .ref (mo + 19), .ref (mo + 20), .ref (mo + 21), .ref (mo + 22), .ref (mo + 23), .null, .null, .null, .null, .null, .null, .int 0, .null, .null] H H11 mo 24 ([kn_R cII 4 4 (fun j => mo + 1 + 1 + j), kq_I cI 8 0, kq_I cI 8 0, kq_I cI 8 0, kq_I cI 8 0, kn_R cII 4 4 (fun j => mo + 6 + 1 + j), kq_I cI 8 0, kq_I cI 8 0, kq_I cI 8 0, kq_I cI 8 0, kn_R cII 4 4 (fun j => mo + 11 + 1 + j), kq_I cI 8 0, kq_I cI 8 0, kq_I cI 8 0, kq_I cI 8 0, kq_B cZ bs, kq_I cI 8 1, kq_I cI 8 0, kq_I cI 8 0, kq_I cI 8 0, kq_I cI 16 0, kq_I cI 8 0, kq_I cI 8 0]) := s11
  refine kn_rowI hx hb hts hown hin hK hcI (N := 8) s11 L11 hl (k := 11) (by decide) kt_w387 rfl rfl (by decide +kernel) (Nat.le_of_ble_eq_true rfl) (Nat.le_of_ble_eq_true rfl) (Nat.le_of_ble_eq_true rfl) (by decide) (by decide) (by decide) d_Mo_init_150 d_Mo_init_151 d_Mo_init_153 d_Mo_init_155 (fun H12 locs12 s12 L12 => ?_)
  clear s11 L11
  have s12 : kn_S D [.ref (mo + 1), .ref (mo + 6), .ref (mo + 11), .ref (mo + 16), .ref (mo + 17), .ref (mo + 18), .ref (mo + 19), .ref (mo + 20), .ref (mo + 21), .ref (mo + 22), .ref (mo + 23), .ref (mo + 24), .null, .null, .null, .null, .null, .int 0, .null, .null] H H12 mo 25 ([kn_R cII 4 4 (fun j => mo + 1 + 1 + j), kq_I cI 8 0, kq_I cI 8 0, kq_I cI 8 0, kq_I cI 8 0, kn_R cII 4 4 (fun j => mo + 6 + 1 + j), kq_I cI 8 0, kq_I cI 8 0, kq_I cI 8 0, kq_I cI 8 0, kn_R cII 4 4 (fun j => mo + 11 + 1 + j), kq_I cI 8 0, kq_I cI 8 0, kq_I cI 8 0, kq_I cI 8 0, kq_B cZ bs, kq_I cI 8 1, kq_I cI 8 0, kq_I cI 8 0, kq_I cI 8 0, kq_I cI 16 0, kq_I cI 8 0, kq_I cI 8 0, kq_I cI 8 0]) := s12
  refine kn_rowI hx hb hts hown hin hK hcI (N := 8) s12 L12 hl (k := 12) (by decide) kt_w388 rfl rfl (by decide +kernel) (Nat.le_of_ble_eq_true rfl) (Nat.le_of_ble_eq_true rfl) (Nat.le_of_ble_eq_true rfl) (by decide) (by decide) (by decide) d_Mo_init_158 d_Mo_init_159 d_Mo_init_161 d_Mo_init_163 (fun H13 locs13 s13 L13 => ?_)
  clear s12 L12
  have s13 : kn_S D [.ref (mo + 1), .ref (mo + 6), .ref (mo + 11), .ref (mo + 16), .ref (mo + 17), .ref (mo + 18), .ref (mo + 19), .ref (mo + 20), .ref (mo + 21), .ref (mo + 22), .ref (mo + 23), .ref (mo + 24), .ref (mo + 25), .null, .null, .null, .null, .int 0, .null, .null] H H13 mo 26 ([kn_R cII 4 4 (fun j => mo + 1 + 1 + j), kq_I cI 8 0, kq_I cI 8 0, kq_I cI 8 0, kq_I cI 8 0, kn_R cII 4 4 (fun j => mo + 6 + 1 + j), kq_I cI 8 0, kq_I cI 8 0, kq_I cI 8 0, kq_I cI 8 0, kn_R cII 4 4 (fun j => mo + 11 + 1 + j), kq_I cI 8 0, kq_I cI 8 0, kq_I cI 8 0, kq_I cI 8 0, kq_B cZ bs, kq_I cI 8 1, kq_I cI 8 0, kq_I cI 8 0, kq_I cI 8 0, kq_I cI 16 0, kq_I cI 8 0, kq_I cI 8 0, kq_I cI 8 0, kq_I cI 8 0]) := s13
  refine kn_rowI hx hb hts hown hin hK hcI (N := 8) s13 L13 hl (k := 13) (by decide) kt_w389 rfl rfl (by decide +kernel) (Nat.le_of_ble_eq_true rfl) (Nat.le_of_ble_eq_true rfl) (Nat.le_of_ble_eq_true rfl) (by decide) (by decide) (by decide) d_Mo_init_166 d_Mo_init_167 d_Mo_init_169 d_Mo_init_171 (fun H14 locs14 s14 L14 => ?_)
  clear s13 L13
  have s14 : kn_S D [.ref (mo + 1), .ref (mo + 6), .ref (mo + 11), .ref (mo + 16), .ref (mo + 17), .ref (mo + 18), .ref (mo + 19), .ref (mo + 20), .ref (mo + 21), .ref (mo + 22), .ref (mo + 23), .ref (mo + 24), .ref (mo + 25), .ref (mo + 26), .null, .null, .null, .int 0, .null, .null] H H14 mo 27 ([kn_R cII 4 4 (fun j => mo + 1 + 1 + j), kq_I cI 8 0, kq_I cI 8 0, kq_I cI 8 0, kq_I cI 8 0, kn_R cII 4 4 (fun j => mo + 6 + 1 + j), kq_I cI 8 0, kq_I cI 8 0, kq_I cI 8 0, kq_I cI 8 0, kn_R cII 4 4 (fun j => mo + 11 + 1 + j), kq_I cI 8 0, kq_I cI 8 0, kq_I cI 8 0, kq_I cI 8 0, kq_B cZ bs, kq_I cI 8 1, kq_I cI 8 0, kq_I cI 8 0, kq_I cI 8 0, kq_I cI 16 0, kq_I cI 8 0, kq_I cI 8 0, kq_I cI 8 0, kq_I cI 8 0, kq_I cI 8 0]) := s14
  refine kn_rowI hx hb hts hown hin hK hcI (N := 8) s14 L14 hl (k := 14) (by decide) kt_w390 rfl rfl (by decide +kernel) (Nat.le_of_ble_eq_true rfl) (Nat.le_of_ble_eq_true rfl) (Nat.le_of_ble_eq_true rfl) (by decide) (by decide) (by decide) d_Mo_init_174 d_Mo_init_175 d_Mo_init_177 d_Mo_init_179 (fun H15 locs15 s15 L15 => ?_)
  clear s14 L14
  have s15 : kn_S D [.ref (mo + 1), .ref (mo + 6), .ref (mo + 11), .ref (mo + 16), .ref (mo + 17), .ref (mo + 18), .ref (mo + 19), .ref (mo + 20), .ref (mo + 21), .ref (mo + 22), .ref (mo + 23), .ref (mo + 24), .ref (mo + 25), .ref (mo + 26), .ref (mo + 27), .null, .null, .int 0, .null, .null] H H15 mo 28 ([kn_R cII 4 4 (fun j => mo + 1 + 1 + j), kq_I cI 8 0, kq_I cI 8 0, kq_I cI 8 0, kq_I cI 8 0, kn_R cII 4 4 (fun j => mo + 6 + 1 + j), kq_I cI 8 0, kq_I cI 8 0, kq_I cI 8 0, kq_I cI 8 0, kn_R cII 4 4 (fun j => mo + 11 + 1 + j), kq_I cI 8 0, kq_I cI 8 0, kq_I cI 8 0, kq_I cI 8 0, kq_B cZ bs, kq_I cI 8 1, kq_I cI 8 0, kq_I cI 8 0, kq_I cI 8 0, kq_I cI 16 0, kq_I cI 8 0, kq_I cI 8 0, kq_I cI 8 0, kq_I cI 8 0, kq_I cI 8 0, kq_I cI 8 0]) := s15
  refine kn_rowI hx hb hts hown hin hK hcI (N := 8) s15 L15 hl (k := 15) (by decide) kt_w391 rfl rfl (by decide +kernel) (Nat.le_of_ble_eq_true rfl) (Nat.le_of_ble_eq_true rfl) (Nat.le_of_ble_eq_true rfl) (by decide) (by decide) (by decide) d_Mo_init_182 d_Mo_init_183 d_Mo_init_185 d_Mo_init_187 (fun H16 locs16 s16 L16 => ?_)
  clear s15 L15
  have s16 : kn_S D [.ref (mo + 1), .ref (mo + 6), .ref (mo + 11), .ref (mo + 16), .ref (mo + 17), .ref (mo + 18), .ref (mo + 19), .ref (mo + 20), .ref (mo + 21), .ref (mo + 22), .ref (mo + 23), .ref (mo + 24), .ref (mo + 25), .ref (mo + 26), .ref (mo + 27), .ref (mo + 28), .null, .int 0, .null, .null] H H16 mo 29 ([kn_R cII 4 4 (fun j => mo + 1 + 1 + j), kq_I cI 8 0, kq_I cI 8 0, kq_I cI 8 0, kq_I cI 8 0, kn_R cII 4 4 (fun j => mo + 6 + 1 + j), kq_I cI 8 0, kq_I cI 8 0, kq_I cI 8 0, kq_I cI 8 0, kn_R cII 4 4 (fun j => mo + 11 + 1 + j), kq_I cI 8 0, kq_I cI 8 0, kq_I cI 8 0, kq_I cI 8 0, kq_B cZ bs, kq_I cI 8 1, kq_I cI 8 0, kq_I cI 8 0, kq_I cI 8 0, kq_I cI 16 0, kq_I cI 8 0, kq_I cI 8 0, kq_I cI 8 0, kq_I cI 8 0, kq_I cI 8 0, kq_I cI 8 0, kq_I cI 8 0]) := s16
  refine kn_rowI hx hb hts hown hin hK hcI (N := 8) s16 L16 hl (k := 16) (by decide) kt_w392 rfl rfl (by decide +kernel) (Nat.le_of_ble_eq_true rfl) (Nat.le_of_ble_eq_true rfl) (Nat.le_of_ble_eq_true rfl) (by decide) (by decide) (by decide) d_Mo_init_190 d_Mo_init_191 d_Mo_init_193 d_Mo_init_195 (fun H17 locs17 s17 L17 => ?_)
  clear s16 L16
  have s17 : kn_S D [.ref (mo + 1), .ref (mo + 6), .ref (mo + 11), .ref (mo + 16), .ref (mo + 17), .ref (mo + 18), .ref (mo + 19), .ref (mo + 20), .ref (mo + 21), .ref (mo + 22), .ref (mo + 23), .ref (mo + 24), .ref (mo + 25), .ref (mo + 26), .ref (mo + 27), .ref (mo + 28), .ref (mo + 29), .int 0, .null, .null] H H17 mo 30 ([kn_R cII 4 4 (fun j => mo + 1 + 1 + j), kq_I cI 8 0, kq_I cI 8 0, kq_I cI 8 0, kq_I cI 8 0, kn_R cII 4 4 (fun j => mo + 6 + 1 + j), kq_I cI 8 0, kq_I cI 8 0, kq_I cI 8 0, kq_I cI 8 0, kn_R cII 4 4 (fun j => mo + 11 + 1 + j), kq_I cI 8 0, kq_I cI 8 0, kq_I cI 8 0, kq_I cI 8 0, kq_B cZ bs, kq_I cI 8 1, kq_I cI 8 0, kq_I cI 8 0, kq_I cI 8 0, kq_I cI 16 0, kq_I cI 8 0, kq_I cI 8 0, kq_I cI 8 0, kq_I cI 8 0, kq_I cI 8 0, kq_I cI 8 0, kq_I cI 8 0, kq_I cI 8 0]) := s17
  refine kn_rowI hx hb hts hown hin hK hcI (N := 8) s17 L17 hl (k := 18) (by decide) kt_w394 rfl rfl (by decide +kernel) (Nat.le_of_ble_eq_true rfl) (Nat.le_of_ble_eq_true rfl) (Nat.le_of_ble_eq_true rfl) (by decide) (by decide) (by decide) d_Mo_init_198 d_Mo_init_199 d_Mo_init_201 d_Mo_init_203 (fun H18 locs18 s18 L18 => ?_)
  clear s17 L17
  have s18 : kn_S D [.ref (mo + 1), .ref (mo + 6), .ref (mo + 11), .ref (mo + 16), .ref (mo + 17), .ref (mo + 18), .ref (mo + 19), .ref (mo + 20), .ref (mo + 21), .ref (mo + 22), .ref (mo + 23), .ref (mo + 24), .ref (mo + 25), .ref (mo + 26), .ref (mo + 27), .ref (mo + 28), .ref (mo + 29), .int 0, .ref (mo + 30), .null] H H18 mo 31 ([kn_R cII 4 4 (fun j => mo + 1 + 1 + j), kq_I cI 8 0, kq_I cI 8 0, kq_I cI 8 0, kq_I cI 8 0, kn_R cII 4 4 (fun j => mo + 6 + 1 + j), kq_I cI 8 0, kq_I cI 8 0, kq_I cI 8 0, kq_I cI 8 0, kn_R cII 4 4 (fun j => mo + 11 + 1 + j), kq_I cI 8 0, kq_I cI 8 0, kq_I cI 8 0, kq_I cI 8 0, kq_B cZ bs, kq_I cI 8 1, kq_I cI 8 0, kq_I cI 8 0, kq_I cI 8 0, kq_I cI 16 0, kq_I cI 8 0, kq_I cI 8 0, kq_I cI 8 0, kq_I cI 8 0, kq_I cI 8 0, kq_I cI 8 0, kq_I cI 8 0, kq_I cI 8 0, kq_I cI 8 0]) := s18
  refine kn_rowI hx hb hts hown hin hK hcI (N := 8) s18 L18 hl (k := 19) (by decide) kt_w395 rfl rfl (by decide +kernel) (Nat.le_of_ble_eq_true rfl) (Nat.le_of_ble_eq_true rfl) (Nat.le_of_ble_eq_true rfl) (by decide) (by decide) (by decide) d_Mo_init_206 d_Mo_init_207 d_Mo_init_209 d_Mo_init_211 (fun H19 locs19 s19 L19 => ?_)
  clear s18 L18
  have s19 : kn_S D [.ref (mo + 1), .ref (mo + 6), .ref (mo + 11), .ref (mo + 16), .ref (mo + 17), .ref (mo + 18), .ref (mo + 19), .ref (mo + 20), .ref (mo + 21), .ref (mo + 22), .ref (mo + 23), .ref (mo + 24), .ref (mo + 25), .ref (mo + 26), .ref (mo + 27), .ref (mo + 28), .ref (mo + 29), .int 0, .ref (mo + 30), .ref (mo + 31)] H H19 mo 32 ([kn_R cII 4 4 (fun j => mo + 1 + 1 + j), kq_I cI 8 0, kq_I cI 8 0, kq_I cI 8 0, kq_I cI 8 0, kn_R cII 4 4 (fun j => mo + 6 + 1 + j), kq_I cI 8 0, kq_I cI 8 0, kq_I cI 8 0, kq_I cI 8 0, kn_R cII 4 4 (fun j => mo + 11 + 1 + j), kq_I cI 8 0, kq_I cI 8 0, kq_I cI 8 0, kq_I cI 8 0, kq_B cZ bs, kq_I cI 8 1, kq_I cI 8 0, kq_I cI 8 0, kq_I cI 8 0, kq_I cI 16 0, kq_I cI 8 0, kq_I cI 8 0, kq_I cI 8 0, kq_I cI 8 0, kq_I cI 8 0, kq_I cI 8 0, kq_I cI 8 0, kq_I cI 8 0, kq_I cI 8 0, kq_I cI 8 0]) := s19
  obtain ⟨hz, -, kp, hP, hC⟩ := s19
  have hR : ∀ k, 18 ≤ k → k ≤ 31 → k ≠ 21 → H19[mo + k]? = some (kq_I cI 8 0) := fun k k1 k2 k3 => by
    rcases (show k = 18 ∨ k = 19 ∨ k = 20 ∨ k = 22 ∨ k = 23 ∨ k = 24 ∨ k = 25 ∨ k = 26 ∨ k = 27 ∨ k = 28 ∨ k = 29 ∨ k = 30 ∨ k = 31 by omega) with rfl | rfl | rfl | rfl | rfl | rfl | rfl | rfl | rfl | rfl | rfl | rfl | rfl
    · exact hC 17 (kq_I cI 8 0) rfl
    · exact hC 18 (kq_I cI 8 0) rfl
    · exact hC 19 (kq_I cI 8 0) rfl
    · exact hC 21 (kq_I cI 8 0) rfl
    · exact hC 22 (kq_I cI 8 0) rfl
    · exact hC 23 (kq_I cI 8 0) rfl
    · exact hC 24 (kq_I cI 8 0) rfl
    · exact hC 25 (kq_I cI 8 0) rfl
    · exact hC 26 (kq_I cI 8 0) rfl
    · exact hC 27 (kq_I cI 8 0) rfl
    · exact hC 28 (kq_I cI 8 0) rfl
    · exact hC 29 (kq_I cI 8 0) rfl
    · exact hC 30 (kq_I cI 8 0) rfl
  have hR4 : ∀ j, j < 4 → H19[mo + 2 + j]? = some (kq_I cI 8 0) ∧ H19[mo + 7 + j]? = some (kq_I cI 8 0) ∧ H19[mo + 12 + j]? = some (kq_I cI 8 0) := fun j hj => by
    rcases (show j = 0 ∨ j = 1 ∨ j = 2 ∨ j = 3 by omega) with rfl | rfl | rfl | rfl
    · exact ⟨hC 1 (kq_I cI 8 0) rfl, hC 6 (kq_I cI 8 0) rfl, hC 11 (kq_I cI 8 0) rfl⟩
    · exact ⟨hC 2 (kq_I cI 8 0) rfl, hC 7 (kq_I cI 8 0) rfl, hC 12 (kq_I cI 8 0) rfl⟩
    · exact ⟨hC 3 (kq_I cI 8 0) rfl, hC 8 (kq_I cI 8 0) rfl, hC 13 (kq_I cI 8 0) rfl⟩
    · exact ⟨hC 4 (kq_I cI 8 0) rfl, hC 9 (kq_I cI 8 0) rfl, hC 14 (kq_I cI 8 0) rfl⟩
  exact W.vret hx hb hret (fun t ht _ => ⟨_, rfl, rfl, by rw [ht]; exact hz, fun q hq => by rw [ht]; exact kp q hq, by rw [ht]; exact ⟨hP, ⟨hC 0 _ rfl, hC 5 _ rfl, hC 10 _ rfl⟩, hR4, ⟨bs, hbs, hC 15 _ rfl⟩, hC 16 _ rfl, hR, hC 20 _ rfl⟩⟩) L19 d_Mo_init_214
