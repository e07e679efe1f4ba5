/-! KeyCurveModel: multiply of rows (own rows). -/
theorem d_Mo_multiply_1_0 : decode b_Mo_multiply_1 0 = .ok (.iconst 0, 1) := by decide +kernel
theorem d_Mo_multiply_1_1 : decode b_Mo_multiply_1 1 = .ok (.istore_n 3, 1) := by decide +kernel
theorem d_Mo_multiply_1_2 : decode b_Mo_multiply_1 2 = .ok (.iload_n 3, 1) := by decide +kernel
theorem d_Mo_multiply_1_3 : decode b_Mo_multiply_1 3 = .ok (.bipush 16, 2) := by decide +kernel
theorem d_Mo_multiply_1_5 : decode b_Mo_multiply_1 5 = .ok (.if_icmp .ge 16, 3) := by decide +kernel
theorem d_Mo_multiply_1_8 : decode b_Mo_multiply_1 8 = .ok (.aload_n 0, 1) := by decide +kernel
theorem d_Mo_multiply_1_9 : decode b_Mo_multiply_1 9 = .ok (.getfield 37, 3) := by decide +kernel
theorem d_Mo_multiply_1_12 : decode b_Mo_multiply_1 12 = .ok (.iload_n 3, 1) := by decide +kernel
theorem d_Mo_multiply_1_13 : decode b_Mo_multiply_1 13 = .ok (.iconst 0, 1) := by decide +kernel
theorem d_Mo_multiply_1_14 : decode b_Mo_multiply_1 14 = .ok (.iastore, 1) := by decide +kernel
theorem d_Mo_multiply_1_15 : decode b_Mo_multiply_1 15 = .ok (.iinc 3 1, 3) := by decide +kernel
theorem d_Mo_multiply_1_18 : decode b_Mo_multiply_1 18 = .ok (.goto (-16), 3) := by decide +kernel
theorem d_Mo_multiply_1_21 : decode b_Mo_multiply_1 21 = .ok (.iconst 0, 1) := by decide +kernel
theorem d_Mo_multiply_1_22 : decode b_Mo_multiply_1 22 = .ok (.istore_n 3, 1) := by decide +kernel
theorem d_Mo_multiply_1_23 : decode b_Mo_multiply_1 23 = .ok (.iload_n 3, 1) := by decide +kernel
theorem d_Mo_multiply_1_24 : decode b_Mo_multiply_1 24 = .ok (.bipush 8, 2) := by decide +kernel
theorem d_Mo_multiply_1_26 : decode b_Mo_multiply_1 26 = .ok (.if_icmp .ge 97, 3) := by decide +kernel
theorem d_Mo_multiply_1_29 : decode b_Mo_multiply_1 29 = .ok (.lconst 0, 1) := by decide +kernel
theorem d_Mo_multiply_1_30 : decode b_Mo_multiply_1 30 = .ok (.lstore 4, 2) := by decide +kernel
theorem d_Mo_multiply_1_32 : decode b_Mo_multiply_1 32 = .ok (.iconst 0, 1) := by decide +kernel
theorem d_Mo_multiply_1_33 : decode b_Mo_multiply_1 33 = .ok (.istore 6, 2) := by decide +kernel
theorem d_Mo_multiply_1_35 : decode b_Mo_multiply_1 35 = .ok (.iload 6, 2) := by decide +kernel
theorem d_Mo_multiply_1_37 : decode b_Mo_multiply_1 37 = .ok (.bipush 8, 2) := by decide +kernel
theorem d_Mo_multiply_1_39 : decode b_Mo_multiply_1 39 = .ok (.if_icmp .ge 66, 3) := by decide +kernel
theorem d_Mo_multiply_1_42 : decode b_Mo_multiply_1 42 = .ok (.lload 4, 2) := by decide +kernel
theorem d_Mo_multiply_1_44 : decode b_Mo_multiply_1 44 = .ok (.aload_n 1, 1) := by decide +kernel
theorem d_Mo_multiply_1_45 : decode b_Mo_multiply_1 45 = .ok (.iload_n 3, 1) := by decide +kernel
theorem d_Mo_multiply_1_46 : decode b_Mo_multiply_1 46 = .ok (.iaload, 1) := by decide +kernel
theorem d_Mo_multiply_1_47 : decode b_Mo_multiply_1 47 = .ok (.i2l, 1) := by decide +kernel
theorem d_Mo_multiply_1_48 : decode b_Mo_multiply_1 48 = .ok (.ldc2_w 76, 3) := by decide +kernel
theorem d_Mo_multiply_1_51 : decode b_Mo_multiply_1 51 = .ok (.land, 1) := by decide +kernel
theorem d_Mo_multiply_1_52 : decode b_Mo_multiply_1 52 = .ok (.aload_n 2, 1) := by decide +kernel
theorem d_Mo_multiply_1_53 : decode b_Mo_multiply_1 53 = .ok (.iload 6, 2) := by decide +kernel
theorem d_Mo_multiply_1_55 : decode b_Mo_multiply_1 55 = .ok (.iaload, 1) := by decide +kernel
theorem d_Mo_multiply_1_56 : decode b_Mo_multiply_1 56 = .ok (.i2l, 1) := by decide +kernel
theorem d_Mo_multiply_1_57 : decode b_Mo_multiply_1 57 = .ok (.ldc2_w 76, 3) := by decide +kernel
theorem d_Mo_multiply_1_60 : decode b_Mo_multiply_1 60 = .ok (.land, 1) := by decide +kernel
theorem d_Mo_multiply_1_61 : decode b_Mo_multiply_1 61 = .ok (.lmul, 1) := by decide +kernel
theorem d_Mo_multiply_1_62 : decode b_Mo_multiply_1 62 = .ok (.aload_n 0, 1) := by decide +kernel
theorem d_Mo_multiply_1_63 : decode b_Mo_multiply_1 63 = .ok (.getfield 37, 3) := by decide +kernel
theorem d_Mo_multiply_1_66 : decode b_Mo_multiply_1 66 = .ok (.iload_n 3, 1) := by decide +kernel
theorem d_Mo_multiply_1_67 : decode b_Mo_multiply_1 67 = .ok (.iload 6, 2) := by decide +kernel
theorem d_Mo_multiply_1_69 : decode b_Mo_multiply_1 69 = .ok (.iadd, 1) := by decide +kernel
theorem d_Mo_multiply_1_70 : decode b_Mo_multiply_1 70 = .ok (.iaload, 1) := by decide +kernel
theorem d_Mo_multiply_1_71 : decode b_Mo_multiply_1 71 = .ok (.i2l, 1) := by decide +kernel
theorem d_Mo_multiply_1_72 : decode b_Mo_multiply_1 72 = .ok (.ldc2_w 76, 3) := by decide +kernel
theorem d_Mo_multiply_1_75 : decode b_Mo_multiply_1 75 = .ok (.land, 1) := by decide +kernel
theorem d_Mo_multiply_1_76 : decode b_Mo_multiply_1 76 = .ok (.ladd, 1) := by decide +kernel
theorem d_Mo_multiply_1_77 : decode b_Mo_multiply_1 77 = .ok (.ladd, 1) := by decide +kernel
theorem d_Mo_multiply_1_78 : decode b_Mo_multiply_1 78 = .ok (.lstore 4, 2) := by decide +kernel
theorem d_Mo_multiply_1_80 : decode b_Mo_multiply_1 80 = .ok (.aload_n 0, 1) := by decide +kernel
theorem d_Mo_multiply_1_81 : decode b_Mo_multiply_1 81 = .ok (.getfield 37, 3) := by decide +kernel
theorem d_Mo_multiply_1_84 : decode b_Mo_multiply_1 84 = .ok (.iload_n 3, 1) := by decide +kernel
theorem d_Mo_multiply_1_85 : decode b_Mo_multiply_1 85 = .ok (.iload 6, 2) := by decide +kernel
theorem d_Mo_multiply_1_87 : decode b_Mo_multiply_1 87 = .ok (.iadd, 1) := by decide +kernel
theorem d_Mo_multiply_1_88 : decode b_Mo_multiply_1 88 = .ok (.lload 4, 2) := by decide +kernel
theorem d_Mo_multiply_1_90 : decode b_Mo_multiply_1 90 = .ok (.l2i, 1) := by decide +kernel
theorem d_Mo_multiply_1_91 : decode b_Mo_multiply_1 91 = .ok (.iastore, 1) := by decide +kernel
theorem d_Mo_multiply_1_92 : decode b_Mo_multiply_1 92 = .ok (.lload 4, 2) := by decide +kernel
theorem d_Mo_multiply_1_94 : decode b_Mo_multiply_1 94 = .ok (.bipush 32, 2) := by decide +kernel
theorem d_Mo_multiply_1_96 : decode b_Mo_multiply_1 96 = .ok (.lushr, 1) := by decide +kernel
theorem d_Mo_multiply_1_97 : decode b_Mo_multiply_1 97 = .ok (.lstore 4, 2) := by decide +kernel
theorem d_Mo_multiply_1_99 : decode b_Mo_multiply_1 99 = .ok (.iinc 6 1, 3) := by decide +kernel
theorem d_Mo_multiply_1_102 : decode b_Mo_multiply_1 102 = .ok (.goto (-67), 3) := by decide +kernel
theorem d_Mo_multiply_1_105 : decode b_Mo_multiply_1 105 = .ok (.aload_n 0, 1) := by decide +kernel
theorem d_Mo_multiply_1_106 : decode b_Mo_multiply_1 106 = .ok (.getfield 37, 3) := by decide +kernel
theorem d_Mo_multiply_1_109 : decode b_Mo_multiply_1 109 = .ok (.iload_n 3, 1) := by decide +kernel
theorem d_Mo_multiply_1_110 : decode b_Mo_multiply_1 110 = .ok (.bipush 8, 2) := by decide +kernel
theorem d_Mo_multiply_1_112 : decode b_Mo_multiply_1 112 = .ok (.iadd, 1) := by decide +kernel
theorem d_Mo_multiply_1_113 : decode b_Mo_multiply_1 113 = .ok (.lload 4, 2) := by decide +kernel
theorem d_Mo_multiply_1_115 : decode b_Mo_multiply_1 115 = .ok (.l2i, 1) := by decide +kernel
theorem d_Mo_multiply_1_116 : decode b_Mo_multiply_1 116 = .ok (.iastore, 1) := by decide +kernel
theorem d_Mo_multiply_1_117 : decode b_Mo_multiply_1 117 = .ok (.iinc 3 1, 3) := by decide +kernel
theorem d_Mo_multiply_1_120 : decode b_Mo_multiply_1 120 = .ok (.goto (-97), 3) := by decide +kernel
theorem d_Mo_multiply_1_123 : decode b_Mo_multiply_1 123 = .ok (.return_, 1) := by decide +kernel
section
variable {p : Program} {l : Launch} {e : Env} {R : Room} {s : State} {m : MethodId} {args : Array Value} {below : List Frame} {meth : Method} {c : Code} {cells slots : Nat} {Q : State → Prop}
set_option maxHeartbeats 4000000 in
set_option maxRecDepth 100000 in
theorem la_Mo_multiply_1 (hx : p.tables.exec = Jvm.exec) (hb : c.code = b_Mo_multiply_1) (hts : ∀ w ∈ w_Mo_multiply_1, w.before args s = true) (hown : s.vm.findClass R_Mo = some m.cls) {E : ks_E} {mo : Nat} {far : Bool} (hE : ks_ok E) (hO : ks_O E mo far) (hB : ks_B E s) {a b : Nat} {v : Nat → Nat}
    (kk : ∀ (w : Nat → Nat) (H : Heap) (ls : Array Slot) (locs : List Loc), ks_W E w H → w (mo + 21) = 0 → (∀ q, q ≠ mo + 21 → w q = v q) → (∀ q ∈ locs, q.base = mo + 21) → lv_has ls 7 [(0, .ref mo), (1, .ref a), (2, .ref b)] → W p l e R s m args below meth c H locs 0 0 Q (F0 m 21 ls [])) :
    ∀ (n i : Nat) (w : Nat → Nat) (H : Heap) (ls : Array Slot) (locs : List Loc), i + n = 16 → ks_W E w H → w (mo + 21) % kw_M i = 0 → (∀ q, q ≠ mo + 21 → w q = v q) → (∀ q ∈ locs, q.base = mo + 21) → lv_has ls 7 [(3, .int (nI i)), (0, .ref mo), (1, .ref a), (2, .ref b)] → W p l e R s m args below meth c H locs 0 0 Q (F0 m 2 ls []) := by
  intro n
  induction n with
  | zero =>
    intro i w H ls locs hn hW h1 ho hlc hl
    obtain rfl : i = 16 := by omega
    refine lv_iload_n hx hb d_Mo_multiply_1_2 rfl (lv_at hl 0 rfl) ?_
    refine lv_bipush (v := nI 16) hx hb d_Mo_multiply_1_3 (by decide) ?_
    refine lv_icmp_ge hx hb d_Mo_multiply_1_5 rfl (fun hc => ?_) (fun hc => ?_)
    · rw [Nat.mod_eq_of_lt (ks_wide hO hW).2] at h1
      exact kk w H ls locs hW h1 ho hlc (lv_sub hl [1, 2, 3] rfl)
    · exact absurd (nI_le (Nat.le_refl 16) (by decide)) hc
  | succ n ih =>
    intro i w H ls locs hn hW h1 ho hlc hl
    have hi : i < 16 := by omega
    have hK := hB.1
    have hT := ks_T hE hB
    have hwd := hO.2.2.2.1
    have hOo := ks_obj hW hO.1 hO.2.1
    obtain ⟨hw1, hw2⟩ := ks_wide hO hW
    have hW1 := ks_putn hE hW hwd.1 hwd.2 (kw_s_lt hw2 hi (show 0 < 4294967296 by decide))
    refine lv_iload_n hx hb d_Mo_multiply_1_2 rfl (lv_at hl 0 rfl) ?_
    refine lv_bipush (v := nI 16) hx hb d_Mo_multiply_1_3 (by decide) ?_
    refine lv_icmp_ge hx hb d_Mo_multiply_1_5 rfl (fun hc => ?_) (fun hc => ?_)
    · exact absurd hc (nI_ge hi (by decide))
    · refine lv_aload_n hx hb d_Mo_multiply_1_8 rfl (lv_at hl 1 rfl) ?_
      refine kq_get hx hb hts kt_F_Mo hown hK hOo rfl 8 (by decide) kt_w384 rfl d_Mo_multiply_1_9 ?_
      refine lv_iload_n hx hb d_Mo_multiply_1_12 rfl (lv_at hl 0 rfl) ?_
      refine lv_iconst (v := nI 0) hx hb d_Mo_multiply_1_13 (by decide) ?_
      refine kq_iast hx hb (hT) (hw1) (hi) (by decide) ((by decide)) d_Mo_multiply_1_14 ?_
      refine lv_iinc (k := 0) (v := nI (i + 1)) hx hb d_Mo_multiply_1_15 hl rfl (kq_inc i) (by decide) rfl (fun ls hl => ?_)
      have hl : lv_has ls 7 [(3, .int (nI (i + 1))), (0, .ref mo), (1, .ref a), (2, .ref b)] := hl
      refine lv_goto hx hb d_Mo_multiply_1_18 rfl ?_
      refine ih (i + 1) _ _ ls _ (by omega) hW1 ?_ (fun q hq => by rw [kq_up_ne hq]; exact ho q hq) (t_lc (free := fun q => q = mo + 21) hlc rfl) (lv_sub hl [0, 1, 2, 3] rfl)
      rw [kq_up_at, kw_s_lo _ _ _ (by decide), h1]
      rfl
set_option maxHeartbeats 4000000 in
set_option maxRecDepth 100000 in
theorem li_Mo_multiply_1 (hx : p.tables.exec = Jvm.exec) (hb : c.code = b_Mo_multiply_1) (hts : ∀ w ∈ w_Mo_multiply_1, w.before args s = true) (hown : s.vm.findClass R_Mo = some m.cls) {E : ks_E} {mo : Nat} {far : Bool} (hE : ks_ok E) (hO : ks_O E mo far) (hB : ks_B E s) {a b i V0 : Nat} {v : Nat → Nat} (ha : ks_in E a) (hb0 : ks_in E b) (hi : i < 8)
    (kk : ∀ (w : Nat → Nat) (H : Heap) (cy : Nat) (ls : Array Slot) (locs : List Loc), ks_W E w H → w (mo + 21) < kw_M (i + 8) → cy < 4294967296 → w (mo + 21) + cy * kw_M (i + 8) = V0 + kw_d (v a) i * (v b % kw_M 8) * kw_M i → (∀ q, q ≠ mo + 21 → w q = v q) → (∀ q ∈ locs, q.base = mo + 21) → lv_has ls 7 [(4, .long (lN cy)), (0, .ref mo), (1, .ref a), (2, .ref b), (3, .int (nI i))] → W p l e R s m args below meth c H locs 0 0 Q (F0 m 105 ls [])) :
    ∀ (n j : Nat) (w : Nat → Nat) (H : Heap) (cy : Nat) (ls : Array Slot) (locs : List Loc), j + n = 8 → ks_W E w H → w (mo + 21) < kw_M (i + 8) → cy < 4294967296 → w (mo + 21) + cy * kw_M (i + j) = V0 + kw_d (v a) i * (v b % kw_M j) * kw_M i → (∀ q, q ≠ mo + 21 → w q = v q) → (∀ q ∈ locs, q.base = mo + 21) → lv_has ls 7 [(6, .int (nI j)), (4, .long (lN cy)), (0, .ref mo), (1, .ref a), (2, .ref b), (3, .int (nI i))] → W p l e R s m args below meth c H locs 0 0 Q (F0 m 35 ls []) := by
  intro n
  induction n with
  | zero =>
    intro j w H cy ls locs hn hW hV hcy hI ho hlc hl
    obtain rfl : j = 8 := by omega
    refine lv_iload hx hb d_Mo_multiply_1_35 (lv_at hl 0 rfl) ?_
    refine lv_bipush (v := nI 8) hx hb d_Mo_multiply_1_37 (by decide) ?_
    refine lv_icmp_ge hx hb d_Mo_multiply_1_39 rfl (fun hc => ?_) (fun hc => ?_)
    · exact kk w H cy ls locs hW hV hcy hI ho hlc (lv_sub hl [1, 2, 3, 4, 5] rfl)
    · exact absurd (nI_le (Nat.le_refl 8) (by decide)) hc
  | succ n ih =>
    intro j w H cy ls locs hn hW hV hcy hI ho hlc hl
    have hj : j < 8 := by omega
    have hK := hB.1
    have hT := ks_T hE hB
    have hwd := hO.2.2.2.1
    have hOo := ks_obj hW hO.1 hO.2.1
    have hsa := ks_src hE hW hB ha
    have hsb := ks_src hE hW hB hb0
    rw [ho a (ks_in_ne hE hO ha)] at hsa
    rw [ho b (ks_in_ne hE hO hb0)] at hsb
    obtain ⟨hw1, hw2⟩ := ks_wide hO hW
    have hsw : kq_r s .int H (mo + 21) 16 (fun k => .int (nI (kw_d (w (mo + 21)) k))) := kq_r.ofV hT hw1
    have lA := kw_d_lt (v a) i
    have lB := kw_d_lt (v b) j
    have lW := kw_d_lt (w (mo + 21)) (i + j)
    have hs64 : kw_d (v a) i * kw_d (v b) j + kw_d (w (mo + 21)) (i + j) + cy < 18446744073709551616 := kp_s64 lA lB lW hcy
    have lx : (cy + (kw_d (v a) i * kw_d (v b) j + kw_d (w (mo + 21)) (i + j))) % 4294967296 < 4294967296 := Nat.mod_lt _ (by decide)
    have hW1 := ks_putn hE hW hwd.1 hwd.2 (kw_s_lt hw2 (show i + j < 16 by omega) lx)
    refine lv_iload hx hb d_Mo_multiply_1_35 (lv_at hl 0 rfl) ?_
    refine lv_bipush (v := nI 8) hx hb d_Mo_multiply_1_37 (by decide) ?_
    refine lv_icmp_ge hx hb d_Mo_multiply_1_39 rfl (fun hc => ?_) (fun hc => ?_)
    · exact absurd hc (nI_ge hj (by decide))
    · refine lv_lload hx hb d_Mo_multiply_1_42 (lv_at hl 1 rfl) ?_
      refine lv_aload_n hx hb d_Mo_multiply_1_44 rfl (lv_at hl 3 rfl) ?_
      refine lv_iload_n hx hb d_Mo_multiply_1_45 rfl (lv_at hl 5 rfl) ?_
      refine kq_iald hx hb (hsa) (hi) (by decide) (rfl) d_Mo_multiply_1_46 ?_
      refine lv_i2l (v := (nI (kw_d (v a) i)).toInt64) hx hb d_Mo_multiply_1_47 (rfl) ?_
      refine lv_ldc2 hx hb hown (v := lN 4294967295) (hts _ (List.mem_cons_of_mem _ kt_w476)) d_Mo_multiply_1_48 ?_
      refine lv_land hx hb d_Mo_multiply_1_51 ?_
      refine kq_rl (show ((nI (kw_d (v a) i)).toInt64) &&& (lN 4294967295) = lN (kw_d (v a) i) from kx_maskN lA) ?_
      refine lv_aload_n hx hb d_Mo_multiply_1_52 rfl (lv_at hl 4 rfl) ?_
      refine lv_iload hx hb d_Mo_multiply_1_53 (lv_at hl 0 rfl) ?_
      refine kq_iald hx hb (hsb) (hj) (by decide) (rfl) d_Mo_multiply_1_55 ?_
      refine lv_i2l (v := (nI (kw_d (v b) j)).toInt64) hx hb d_Mo_multiply_1_56 (rfl) ?_
      refine lv_ldc2 hx hb hown (v := lN 4294967295) (hts _ (List.mem_cons_of_mem _ kt_w476)) d_Mo_multiply_1_57 ?_
      refine lv_land hx hb d_Mo_multiply_1_60 ?_
      refine kq_rl (show ((nI (kw_d (v b) j)).toInt64) &&& (lN 4294967295) = lN (kw_d (v b) j) from kx_maskN lB) ?_
      refine lv_lmul hx hb d_Mo_multiply_1_61 ?_
      refine kq_rl (show (lN (kw_d (v a) i)) * (lN (kw_d (v b) j)) = lN (kw_d (v a) i * kw_d (v b) j) from lN_mul _ _) ?_
      refine lv_aload_n hx hb d_Mo_multiply_1_62 rfl (lv_at hl 2 rfl) ?_
      refine kq_get hx hb hts kt_F_Mo hown hK hOo rfl 8 (by decide) kt_w384 rfl d_Mo_multiply_1_63 ?_
      refine lv_iload_n hx hb d_Mo_multiply_1_66 rfl (lv_at hl 5 rfl) ?_
      refine lv_iload hx hb d_Mo_multiply_1_67 (lv_at hl 0 rfl) ?_
      refine lv_iadd hx hb d_Mo_multiply_1_69 ?_
      refine kq_ri (show (nI i) + (nI j) = nI (i + j) from nI_add _ _) ?_
      refine kq_iald hx hb (hsw) ((by omega)) (by decide) (rfl) d_Mo_multiply_1_70 ?_
      refine lv_i2l (v := (nI (kw_d (w (mo + 21)) (i + j))).toInt64) hx hb d_Mo_multiply_1_71 (rfl) ?_
      refine lv_ldc2 hx hb hown (v := lN 4294967295) (hts _ (List.mem_cons_of_mem _ kt_w476)) d_Mo_multiply_1_72 ?_
      refine lv_land hx hb d_Mo_multiply_1_75 ?_
      refine kq_rl (show ((nI (kw_d (w (mo + 21)) (i + j))).toInt64) &&& (lN 4294967295) = lN (kw_d (w (mo + 21)) (i + j)) from kx_maskN lW) ?_
      refine lv_ladd hx hb d_Mo_multiply_1_76 ?_
      refine kq_rl (show (lN (kw_d (v a) i * kw_d (v b) j)) + (lN (kw_d (w (mo + 21)) (i + j))) = lN (kw_d (v a) i * kw_d (v b) j + kw_d (w (mo + 21)) (i + j)) from lN_add _ _) ?_
      refine lv_ladd hx hb d_Mo_multiply_1_77 ?_
      refine kq_rl (show (lN cy) + (lN (kw_d (v a) i * kw_d (v b) j + kw_d (w (mo + 21)) (i + j))) = lN (cy + (kw_d (v a) i * kw_d (v b) j + kw_d (w (mo + 21)) (i + j))) from lN_add _ _) ?_
      refine lv_lstore hx hb d_Mo_multiply_1_78 hl (by decide) rfl (fun ls hl => ?_)
      have hl : lv_has ls 7 [(4, .long (lN (cy + (kw_d (v a) i * kw_d (v b) j + kw_d (w (mo + 21)) (i + j))))), (6, .int (nI j)), (0, .ref mo), (1, .ref a), (2, .ref b), (3, .int (nI i))] := hl
      refine lv_aload_n hx hb d_Mo_multiply_1_80 rfl (lv_at hl 2 rfl) ?_
      refine kq_get hx hb hts kt_F_Mo hown hK hOo rfl 8 (by decide) kt_w384 rfl d_Mo_multiply_1_81 ?_
      refine lv_iload_n hx hb d_Mo_multiply_1_84 rfl (lv_at hl 5 rfl) ?_
      refine lv_iload hx hb d_Mo_multiply_1_85 (lv_at hl 1 rfl) ?_
      refine lv_iadd hx hb d_Mo_multiply_1_87 ?_
      refine kq_ri (show (nI i) + (nI j) = nI (i + j) from nI_add _ _) ?_
      refine lv_lload hx hb d_Mo_multiply_1_88 (lv_at hl 0 rfl) ?_
      refine lv_l2i (v := nI ((cy + (kw_d (v a) i * kw_d (v b) j + kw_d (w (mo + 21)) (i + j))) % 4294967296)) hx hb d_Mo_multiply_1_90 (by rw [lN_i, nI_mod]) ?_
      refine kq_iast hx hb (hT) (hw1) ((by omega)) (by decide) (lx) d_Mo_multiply_1_91 ?_
      refine lv_lload hx hb d_Mo_multiply_1_92 (lv_at hl 0 rfl) ?_
      refine lv_bipush (v := nI 32) hx hb d_Mo_multiply_1_94 (by decide) ?_
      refine lv_lushr (v := lN ((cy + (kw_d (v a) i * kw_d (v b) j + kw_d (w (mo + 21)) (i + j))) / 4294967296)) hx hb d_Mo_multiply_1_96 (kq_ushr32 (by omega)) ?_
      refine lv_lstore hx hb d_Mo_multiply_1_97 hl (by decide) rfl (fun ls hl => ?_)
      have hl : lv_has ls 7 [(4, .long (lN ((cy + (kw_d (v a) i * kw_d (v b) j + kw_d (w (mo + 21)) (i + j))) / 4294967296))), (6, .int (nI j)), (0, .ref mo), (1, .ref a), (2, .ref b), (3, .int (nI i))] := hl
      refine lv_iinc (k := 1) (v := nI (j + 1)) hx hb d_Mo_multiply_1_99 hl rfl (kq_inc j) (by decide) rfl (fun ls hl => ?_)
      have hl : lv_has ls 7 [(6, .int (nI (j + 1))), (4, .long (lN ((cy + (kw_d (v a) i * kw_d (v b) j + kw_d (w (mo + 21)) (i + j))) / 4294967296))), (0, .ref mo), (1, .ref a), (2, .ref b), (3, .int (nI i))] := hl
      refine lv_goto hx hb d_Mo_multiply_1_102 rfl ?_
      refine ih (j + 1) _ _ ((cy + (kw_d (v a) i * kw_d (v b) j + kw_d (w (mo + 21)) (i + j))) / 4294967296) ls _ (by omega) hW1 (by rw [kq_up_at]; exact kw_s_lt hV (by omega) lx) (by omega) ?_ (fun q hq => by rw [kq_up_ne hq]; exact ho q hq) (t_lc (free := fun q => q = mo + 21) hlc rfl) (lv_sub hl [0, 1, 2, 3, 4, 5] rfl)
      rw [kq_up_at, kw_d_lo, show kw_M (i + (j + 1)) = kw_M (i + j) * 4294967296 from kw_M_s (i + j)]
      exact kp_row_step (kw_s_eq (w (mo + 21)) (i + j) _) (by omega) (Nat.div_add_mod _ _).symm (kw_M_add i j) hI
set_option maxHeartbeats 4000000 in
set_option maxRecDepth 100000 in
theorem lo_Mo_multiply_1 (hx : p.tables.exec = Jvm.exec) (hb : c.code = b_Mo_multiply_1) (hts : ∀ w ∈ w_Mo_multiply_1, w.before args s = true) (hown : s.vm.findClass R_Mo = some m.cls) {E : ks_E} {mo : Nat} {far : Bool} (hE : ks_ok E) (hO : ks_O E mo far) (hB : ks_B E s) {a b : Nat} {v : Nat → Nat} (ha : ks_in E a) (hb0 : ks_in E b) (hla : v a < kw_M 8) (hlb : v b < kw_M 8)
    (kk : ∀ (w : Nat → Nat) (H : Heap) (ls : Array Slot) (locs : List Loc), ks_W E w H → w (mo + 21) = v a * v b → (∀ q, q ≠ mo + 21 → w q = v q) → (∀ q ∈ locs, q.base = mo + 21) → W p l e R s m args below meth c H locs 0 0 Q (F0 m 123 ls [])) :
    ∀ (n i : Nat) (w : Nat → Nat) (H : Heap) (ls : Array Slot) (locs : List Loc), i + n = 8 → ks_W E w H → w (mo + 21) = v a % kw_M i * v b → (∀ q, q ≠ mo + 21 → w q = v q) → (∀ q ∈ locs, q.base = mo + 21) → lv_has ls 7 [(3, .int (nI i)), (0, .ref mo), (1, .ref a), (2, .ref b)] → W p l e R s m args below meth c H locs 0 0 Q (F0 m 23 ls []) := by
  intro n
  induction n with
  | zero =>
    intro i w H ls locs hn hW h1 ho hlc hl
    obtain rfl : i = 8 := by omega
    refine lv_iload_n hx hb d_Mo_multiply_1_23 rfl (lv_at hl 0 rfl) ?_
    refine lv_bipush (v := nI 8) hx hb d_Mo_multiply_1_24 (by decide) ?_
    refine lv_icmp_ge hx hb d_Mo_multiply_1_26 rfl (fun hc => ?_) (fun hc => ?_)
    · rw [Nat.mod_eq_of_lt hla] at h1
      exact kk w H ls locs hW h1 ho hlc
    · exact absurd (nI_le (Nat.le_refl 8) (by decide)) hc
  | succ n ih =>
    intro i w H ls locs hn hW h1 ho hlc hl
    have hi : i < 8 := by omega
    have hK := hB.1
    have hT := ks_T hE hB
    have hwd := hO.2.2.2.1
    have hstep : v a % kw_M (i + 1) * v b = v a % kw_M i * v b + kw_d (v a) i * v b * kw_M i := by
      rw [kw_d_lo, Nat.add_mul, Nat.mul_comm (kw_M i), Nat.mul_assoc, Nat.mul_comm (kw_M i) (v b), ← Nat.mul_assoc]
    have hV0 : w (mo + 21) < kw_M (i + 8) := by
      rw [h1, kw_M_add]
      exact Nat.mul_lt_mul_of_lt_of_le (Nat.mod_lt _ (kw_M_pos i)) (Nat.le_of_lt hlb) (kw_M_pos 8)
    refine lv_iload_n hx hb d_Mo_multiply_1_23 rfl (lv_at hl 0 rfl) ?_
    refine lv_bipush (v := nI 8) hx hb d_Mo_multiply_1_24 (by decide) ?_
    refine lv_icmp_ge hx hb d_Mo_multiply_1_26 rfl (fun hc => ?_) (fun hc => ?_)
    · exact absurd hc (nI_ge hi (by decide))
    · refine lv_lconst (v := lN 0) hx hb d_Mo_multiply_1_29 (by decide) ?_
      refine lv_lstore hx hb d_Mo_multiply_1_30 hl (by decide) rfl (fun ls hl => ?_)
      have hl : lv_has ls 7 [(4, .long (lN 0)), (3, .int (nI i)), (0, .ref mo), (1, .ref a), (2, .ref b)] := hl
      refine lv_iconst (v := nI 0) hx hb d_Mo_multiply_1_32 (by decide) ?_
      refine lv_istore hx hb d_Mo_multiply_1_33 hl (by decide) rfl (fun ls hl => ?_)
      have hl : lv_has ls 7 [(6, .int (nI 0)), (4, .long (lN 0)), (3, .int (nI i)), (0, .ref mo), (1, .ref a), (2, .ref b)] := hl
      refine li_Mo_multiply_1 hx hb hts hown hE hO hB (v := v) (V0 := w (mo + 21)) (i := i) ha hb0 hi (fun w2 H2 cy ls L2 hW2 hV2 hcy hI2 ho2 hL2 hl => ?_) 8 0 w H 0 ls locs rfl hW hV0 (by decide) (by rw [kw_M_0, Nat.mod_one, Nat.zero_mul, Nat.mul_zero, Nat.zero_mul]) ho hlc (lv_sub hl [0, 1, 3, 4, 5, 2] rfl)
      have hOo := ks_obj hW2 hO.1 hO.2.1
      obtain ⟨hw1, hw2⟩ := ks_wide hO hW2
      have hW3 := ks_putn hE hW2 hwd.1 hwd.2 (kw_s_lt hw2 (show i + 8 < 16 by omega) hcy)
      have hz : kw_d (w2 (mo + 21)) (i + 8) = 0 := kw_d_big hV2 (Nat.le_refl _)
      have hs3 := kw_s_eq (w2 (mo + 21)) (i + 8) cy
      rw [hz, Nat.mul_zero, Nat.add_zero, Nat.mul_comm (kw_M (i + 8)) cy, hI2, Nat.mod_eq_of_lt hlb, h1, ← hstep] at hs3
      refine lv_aload_n hx hb d_Mo_multiply_1_105 rfl (lv_at hl 1 rfl) ?_
      refine kq_get hx hb hts kt_F_Mo hown hK hOo rfl 8 (by decide) kt_w384 rfl d_Mo_multiply_1_106 ?_
      refine lv_iload_n hx hb d_Mo_multiply_1_109 rfl (lv_at hl 4 rfl) ?_
      refine lv_bipush (v := nI 8) hx hb d_Mo_multiply_1_110 (by decide) ?_
      refine lv_iadd hx hb d_Mo_multiply_1_112 ?_
      refine kq_ri (show (nI i) + (nI 8) = nI (i + 8) from nI_add _ _) ?_
      refine lv_lload hx hb d_Mo_multiply_1_113 (lv_at hl 0 rfl) ?_
      refine lv_l2i (v := nI cy) hx hb d_Mo_multiply_1_115 (lN_i _) ?_
      refine kq_iast hx hb (hT) (hw1) ((by omega)) (by decide) (hcy) d_Mo_multiply_1_116 ?_
      refine lv_iinc (k := 4) (v := nI (i + 1)) hx hb d_Mo_multiply_1_117 hl rfl (kq_inc i) (by decide) rfl (fun ls hl => ?_)
      have hl : lv_has ls 7 [(3, .int (nI (i + 1))), (4, .long (lN cy)), (0, .ref mo), (1, .ref a), (2, .ref b)] := hl
      refine lv_goto hx hb d_Mo_multiply_1_120 rfl ?_
      refine ih (i + 1) _ _ ls _ (by omega) hW3 (by rw [kq_up_at, hs3]) (fun q hq => by rw [kq_up_ne hq]; exact ho2 q hq) (t_lc (free := fun q => q = mo + 21) hL2 rfl) (lv_sub hl [0, 2, 3, 4] rfl)
end
set_option maxHeartbeats 4000000 in
set_option maxRecDepth 100000 in
theorem c_Mo_multiply_1 (l : Launch) (E : ks_E) (A : Nat → Nat) (mo : Nat) (far : Bool) (v : Nat → Nat) (H : Heap) (hE : ks_ok E) (hA : ks_A E A) (hO : ks_O E mo far) (hW : ks_W E v H) (a b : Nat) (ha : ks_in E a) (hb0 : ks_in E b) : Met l y_Mo_multiply_1 w_Mo_multiply_1 ({ frames := 0, cells := 0, slots := 0, locals := 0 }) (kq_P [.ref mo, .ref a, .ref b] H (ks_B E)) (kq_Q (fun o H1 => o = none ∧ ks_W E (va_up v (mo + 21) (v a * v b)) H1)) 0 0 (fun q => q = mo + 21) := by
  refine Met.ofW (cc := b_Mo_multiply_1) (maxL := 7) (ret := none) (by decide) rfl ?_
  intro p e s m args below meth c s₁ B0 hml hv
  obtain ⟨rfl, hH, hB⟩ := hv
  have hx := B0.exec
  have hb := B0.bytes
  have hret := B0.returns
  have hts := atoms_spec (ws := w_Mo_multiply_1) B0.pre
  have hown : s.vm.findClass R_Mo = some m.cls := findClass_of_methodNamed B0.named
  have hlocks := B0.notSynchronized
  rw [hH]
  have hl := lv_entry ([.ref mo, .ref a, .ref b]) (n := 7) (Nat.le_of_ble_eq_true rfl)
  rw [lg_entry_eq]
  generalize (lg_sl ([.ref mo, .ref a, .ref b]) ++ List.replicate (7 - (lg_sl ([.ref mo, .ref a, .ref b])).length) Slot.unset).toArray = ls at hl ⊢
  have hl : lv_has ls 7 [(0, .ref mo), (1, .ref a), (2, .ref b)] := hl
  have hla := ks_lt hE hW ha
  have hlb := ks_lt hE hW hb0
  refine lv_iconst (v := nI 0) hx hb d_Mo_multiply_1_0 (by decide) ?_
  refine lv_istore_n hx hb d_Mo_multiply_1_1 rfl hl (by decide) rfl (fun ls hl => ?_)
  have hl : lv_has ls 7 [(3, .int (nI 0)), (0, .ref mo), (1, .ref a), (2, .ref b)] := hl
  refine la_Mo_multiply_1 hx hb hts hown hE hO hB (v := v) (fun w1 H1 ls L1 hW1 h1 ho1 hL1 hl => ?_) 16 0 v H ls [] rfl hW (by rw [kw_M_0, Nat.mod_one]) (fun _ _ => rfl) (fun q h => by cases h) (lv_sub hl [0, 1, 2, 3] rfl)
  refine lv_iconst (v := nI 0) hx hb d_Mo_multiply_1_21 (by decide) ?_
  refine lv_istore_n hx hb d_Mo_multiply_1_22 rfl hl (by decide) rfl (fun ls hl => ?_)
  have hl : lv_has ls 7 [(3, .int (nI 0)), (0, .ref mo), (1, .ref a), (2, .ref b)] := hl
  refine lo_Mo_multiply_1 hx hb hts hown hE hO hB (v := v) ha hb0 hla hlb (fun w2 H2 ls L2 hW2 h2 ho2 hL2 => ?_) 8 0 w1 H1 ls L1 rfl hW1 (by rw [h1, kw_M_0, Nat.mod_one, Nat.zero_mul]) ho1 hL1 (lv_sub hl [0, 1, 2, 3] rfl)
  refine W.vret hx hb hret (fun t ht _ => ⟨_, rfl, rfl, ?_⟩) hL2 d_Mo_multiply_1_123
  rw [ht]
  refine ks_same (fun q => ?_) hW2
  by_cases e : q = mo + 21
  · subst e
    rw [kq_up_at, h2]
  · rw [kq_up_ne e]
    exact ho2 q e
