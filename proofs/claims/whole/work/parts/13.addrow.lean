/-! KeyCurve$Prime: addRow, takeHigh (own rows). -/
theorem kw_s_eq (V k x : Nat) : kw_s V k x + kw_M k * kw_d V k = V + kw_M k * x := by
  have h := kw_d_cut V k
  unfold kw_s
  rw [Nat.mul_add] at h
  omega
theorem kp_row_step {V V' c c' f r w x s M Mj Ma R0 V0 : Nat} (h1 : V' + M * w = V + M * x) (h2 : s = f * r + w + c) (h3 : s = 4294967296 * c' + x) (hM : M = Ma * Mj) (hI : V + c * M = V0 + f * R0 * Ma) : V' + c' * (M * 4294967296) = V0 + f * (R0 + Mj * r) * Ma := by
  have a1 : M * s = M * (f * r) + M * w + c * M := by rw [h2]; grind
  have a2 : M * s = c' * (M * 4294967296) + M * x := by rw [h3]; grind
  have a3 : f * (R0 + Mj * r) * Ma = f * R0 * Ma + M * (f * r) := by rw [hM]; grind
  omega
theorem kp_row_step2 {V V' c c' w x s M T : Nat} (h1 : V' + M * w = V + M * x) (h2 : s = w + c) (h3 : s = 4294967296 * c' + x) (hI : V + c * M = T) : V' + c' * (M * 4294967296) = T := by
  have a1 : M * s = M * w + c * M := by rw [h2]; grind
  have a2 : M * s = c' * (M * 4294967296) + M * x := by rw [h3]; grind
  omega
theorem kp_s64 {f r w c : Nat} (hf : f < 4294967296) (hr : r < 4294967296) (hw : w < 4294967296) (hc : c < 4294967296) : f * r + w + c < 18446744073709551616 := by
  have h : f * r ≤ 4294967295 * 4294967295 := Nat.mul_le_mul (by omega) (by omega)
  omega
theorem kr_in_ne {E : kr_E} {h pa ga gw mm G a : Nat} (hE : kr_ok E) (hP : kr_P E h pa ga gw mm G) (ha : kr_in E a) : a ≠ h + 1 := by
  intro e
  subst e
  have hw := hP.2.2.2.2.2.2.2.2.1
  rcases ha with ⟨-, h2⟩ | h1
  · rw [hw.2] at h2
    omega
  · exact hE.1 _ h1 hw.1
theorem d_Pr_addRow_0 : decode b_Pr_addRow 0 = .ok (.lconst 0, 1) := by decide +kernel
theorem d_Pr_addRow_1 : decode b_Pr_addRow 1 = .ok (.lstore 6, 2) := by decide +kernel
theorem d_Pr_addRow_3 : decode b_Pr_addRow 3 = .ok (.iconst 0, 1) := by decide +kernel
theorem d_Pr_addRow_4 : decode b_Pr_addRow 4 = .ok (.istore 8, 2) := by decide +kernel
theorem d_Pr_addRow_6 : decode b_Pr_addRow 6 = .ok (.iload 8, 2) := by decide +kernel
theorem d_Pr_addRow_8 : decode b_Pr_addRow 8 = .ok (.iload 4, 2) := by decide +kernel
theorem d_Pr_addRow_10 : decode b_Pr_addRow 10 = .ok (.if_icmp .ge 54, 3) := by decide +kernel
theorem d_Pr_addRow_13 : decode b_Pr_addRow 13 = .ok (.lload_n 1, 1) := by decide +kernel
theorem d_Pr_addRow_14 : decode b_Pr_addRow 14 = .ok (.aload_n 3, 1) := by decide +kernel
theorem d_Pr_addRow_15 : decode b_Pr_addRow 15 = .ok (.iload 8, 2) := by decide +kernel
theorem d_Pr_addRow_17 : decode b_Pr_addRow 17 = .ok (.laload, 1) := by decide +kernel
theorem d_Pr_addRow_18 : decode b_Pr_addRow 18 = .ok (.lmul, 1) := by decide +kernel
theorem d_Pr_addRow_19 : decode b_Pr_addRow 19 = .ok (.aload_n 0, 1) := by decide +kernel
theorem d_Pr_addRow_20 : decode b_Pr_addRow 20 = .ok (.getfield 9, 3) := by decide +kernel
theorem d_Pr_addRow_23 : decode b_Pr_addRow 23 = .ok (.iload 5, 2) := by decide +kernel
theorem d_Pr_addRow_25 : decode b_Pr_addRow 25 = .ok (.iload 8, 2) := by decide +kernel
theorem d_Pr_addRow_27 : decode b_Pr_addRow 27 = .ok (.iadd, 1) := by decide +kernel
theorem d_Pr_addRow_28 : decode b_Pr_addRow 28 = .ok (.laload, 1) := by decide +kernel
theorem d_Pr_addRow_29 : decode b_Pr_addRow 29 = .ok (.ladd, 1) := by decide +kernel
theorem d_Pr_addRow_30 : decode b_Pr_addRow 30 = .ok (.lload 6, 2) := by decide +kernel
theorem d_Pr_addRow_32 : decode b_Pr_addRow 32 = .ok (.ladd, 1) := by decide +kernel
theorem d_Pr_addRow_33 : decode b_Pr_addRow 33 = .ok (.lstore 9, 2) := by decide +kernel
theorem d_Pr_addRow_35 : decode b_Pr_addRow 35 = .ok (.aload_n 0, 1) := by decide +kernel
theorem d_Pr_addRow_36 : decode b_Pr_addRow 36 = .ok (.getfield 9, 3) := by decide +kernel
theorem d_Pr_addRow_39 : decode b_Pr_addRow 39 = .ok (.iload 5, 2) := by decide +kernel
theorem d_Pr_addRow_41 : decode b_Pr_addRow 41 = .ok (.iload 8, 2) := by decide +kernel
theorem d_Pr_addRow_43 : decode b_Pr_addRow 43 = .ok (.iadd, 1) := by decide +kernel
theorem d_Pr_addRow_44 : decode b_Pr_addRow 44 = .ok (.lload 9, 2) := by decide +kernel
theorem d_Pr_addRow_46 : decode b_Pr_addRow 46 = .ok (.ldc2_w 97, 3) := by decide +kernel
theorem d_Pr_addRow_49 : decode b_Pr_addRow 49 = .ok (.land, 1) := by decide +kernel
theorem d_Pr_addRow_50 : decode b_Pr_addRow 50 = .ok (.lastore, 1) := by decide +kernel
theorem d_Pr_addRow_51 : decode b_Pr_addRow 51 = .ok (.lload 9, 2) := by decide +kernel
theorem d_Pr_addRow_53 : decode b_Pr_addRow 53 = .ok (.bipush 32, 2) := by decide +kernel
theorem d_Pr_addRow_55 : decode b_Pr_addRow 55 = .ok (.lushr, 1) := by decide +kernel
theorem d_Pr_addRow_56 : decode b_Pr_addRow 56 = .ok (.lstore 6, 2) := by decide +kernel
theorem d_Pr_addRow_58 : decode b_Pr_addRow 58 = .ok (.iinc 8 1, 3) := by decide +kernel
theorem d_Pr_addRow_61 : decode b_Pr_addRow 61 = .ok (.goto (-55), 3) := by decide +kernel
theorem d_Pr_addRow_64 : decode b_Pr_addRow 64 = .ok (.iload 5, 2) := by decide +kernel
theorem d_Pr_addRow_66 : decode b_Pr_addRow 66 = .ok (.iload 4, 2) := by decide +kernel
theorem d_Pr_addRow_68 : decode b_Pr_addRow 68 = .ok (.iadd, 1) := by decide +kernel
theorem d_Pr_addRow_69 : decode b_Pr_addRow 69 = .ok (.istore 8, 2) := by decide +kernel
theorem d_Pr_addRow_71 : decode b_Pr_addRow 71 = .ok (.iload 8, 2) := by decide +kernel
theorem d_Pr_addRow_73 : decode b_Pr_addRow 73 = .ok (.bipush 16, 2) := by decide +kernel
theorem d_Pr_addRow_75 : decode b_Pr_addRow 75 = .ok (.if_icmp .ge 48, 3) := by decide +kernel
theorem d_Pr_addRow_78 : decode b_Pr_addRow 78 = .ok (.lload 6, 2) := by decide +kernel
theorem d_Pr_addRow_80 : decode b_Pr_addRow 80 = .ok (.lconst 0, 1) := by decide +kernel
theorem d_Pr_addRow_81 : decode b_Pr_addRow 81 = .ok (.lcmp, 1) := by decide +kernel
theorem d_Pr_addRow_82 : decode b_Pr_addRow 82 = .ok (.ifCond .eq 41, 3) := by decide +kernel
theorem d_Pr_addRow_85 : decode b_Pr_addRow 85 = .ok (.aload_n 0, 1) := by decide +kernel
theorem d_Pr_addRow_86 : decode b_Pr_addRow 86 = .ok (.getfield 9, 3) := by decide +kernel
theorem d_Pr_addRow_89 : decode b_Pr_addRow 89 = .ok (.iload 8, 2) := by decide +kernel
theorem d_Pr_addRow_91 : decode b_Pr_addRow 91 = .ok (.laload, 1) := by decide +kernel
theorem d_Pr_addRow_92 : decode b_Pr_addRow 92 = .ok (.lload 6, 2) := by decide +kernel
theorem d_Pr_addRow_94 : decode b_Pr_addRow 94 = .ok (.ladd, 1) := by decide +kernel
theorem d_Pr_addRow_95 : decode b_Pr_addRow 95 = .ok (.lstore 9, 2) := by decide +kernel
theorem d_Pr_addRow_97 : decode b_Pr_addRow 97 = .ok (.aload_n 0, 1) := by decide +kernel
theorem d_Pr_addRow_98 : decode b_Pr_addRow 98 = .ok (.getfield 9, 3) := by decide +kernel
theorem d_Pr_addRow_101 : decode b_Pr_addRow 101 = .ok (.iload 8, 2) := by decide +kernel
theorem d_Pr_addRow_103 : decode b_Pr_addRow 103 = .ok (.lload 9, 2) := by decide +kernel
theorem d_Pr_addRow_105 : decode b_Pr_addRow 105 = .ok (.ldc2_w 97, 3) := by decide +kernel
theorem d_Pr_addRow_108 : decode b_Pr_addRow 108 = .ok (.land, 1) := by decide +kernel
theorem d_Pr_addRow_109 : decode b_Pr_addRow 109 = .ok (.lastore, 1) := by decide +kernel
theorem d_Pr_addRow_110 : decode b_Pr_addRow 110 = .ok (.lload 9, 2) := by decide +kernel
theorem d_Pr_addRow_112 : decode b_Pr_addRow 112 = .ok (.bipush 32, 2) := by decide +kernel
theorem d_Pr_addRow_114 : decode b_Pr_addRow 114 = .ok (.lushr, 1) := by decide +kernel
theorem d_Pr_addRow_115 : decode b_Pr_addRow 115 = .ok (.lstore 6, 2) := by decide +kernel
theorem d_Pr_addRow_117 : decode b_Pr_addRow 117 = .ok (.iinc 8 1, 3) := by decide +kernel
theorem d_Pr_addRow_120 : decode b_Pr_addRow 120 = .ok (.goto (-49), 3) := by decide +kernel
theorem d_Pr_addRow_123 : decode b_Pr_addRow 123 = .ok (.return_, 1) := by decide +kernel
section
variable {p : Program} {l : Launch} {e : Env} {R : Room} {s : State} {m : MethodId} {args : Array Value} {below : List Frame} {meth : Method} {c : Code} {cells slots : Nat} {Q : State → Prop}
set_option maxHeartbeats 4000000 in
set_option maxRecDepth 100000 in
theorem lq_Pr_addRow (hx : p.tables.exec = Jvm.exec) (hb : c.code = b_Pr_addRow) (hts : ∀ w ∈ w_Pr_addRow, w.before args s = true) (hown : s.vm.findClass R_Pr = some m.cls) {E : kr_E} {h pa ga gw : Nat} {H : Heap} {V0 : Nat} (hT : ArrOfT s (kr_c E) .long) (hK : va_K (kr_D E) kr_cl (kr_t E) s) (hO : ∀ V : Nat, va_P (kr_D E) kr_cl [(h, .inr (1, [.ref pa, .ref ga, .int (nI gw), .ref (h + 6), .ref (h + 1), .ref (h + 2), .ref (h + 3), .ref (h + 4), .ref (h + 5)]))] (kq_set H (h + 1) (kq_L (kr_c E) 16 V))) (hw : H[h + 1]? = some (kq_L (kr_c E) 16 V0)) {T : Nat} (hTl : T < kw_M 16)
    (kk : ∀ (ls : Array Slot) (locs : List Loc), (∀ q ∈ locs, q.base = h + 1) → W p l e R s m args below meth c (kq_set H (h + 1) (kq_L (kr_c E) 16 T)) locs cells slots Q (F0 m 123 ls [])) :
    ∀ (n k V cy : Nat) (ls : Array Slot) (locs : List Loc), k + n = 16 → V < kw_M 16 → cy < 4294967296 → V + cy * kw_M k = T → (∀ q ∈ locs, q.base = h + 1) → lv_has ls 11 [(8, .int (nI k)), (6, .long (lN cy)), (0, .ref h)] → W p l e R s m args below meth c (kq_set H (h + 1) (kq_L (kr_c E) 16 V)) locs cells slots Q (F0 m 71 ls []) := by
  intro n
  induction n with
  | zero =>
    intro k V cy ls locs hn hV hcy hI hlc hl
    obtain rfl : k = 16 := by omega
    refine lv_iload hx hb d_Pr_addRow_71 (lv_at hl 0 rfl) ?_
    refine lv_bipush (v := nI 16) hx hb d_Pr_addRow_73 (by decide) ?_
    refine lv_icmp_ge hx hb d_Pr_addRow_75 rfl (fun hc => ?_) (fun hc => ?_)
    · have h0 : cy = 0 := by
        apply Classical.byContradiction
        intro q
        have h1 : 1 * kw_M 16 ≤ cy * kw_M 16 := Nat.mul_le_mul (by omega) (Nat.le_refl _)
        omega
      have e : V = T := by
        rw [h0] at hI
        omega
      rw [e]
      exact kk ls locs hlc
    · exact absurd (nI_le (Nat.le_refl 16) (by decide)) hc
  | succ n ih =>
    intro k V cy ls locs hn hV hcy hI hlc hl
    have hk : k < 16 := by omega
    have lV := kw_d_lt V k
    have hO1 := hO V
    have hrow := kq_set_at (x := kq_L (kr_c E) 16 V) hw
    have hsw : kq_r s .long (kq_set H (h + 1) (kq_L (kr_c E) 16 V)) (h + 1) 16 (fun j => .long (lN (kw_d V j))) := kq_r.ofV hT hrow
    have hs64 : kw_d V k + cy < 18446744073709551616 := by omega
    refine lv_iload hx hb d_Pr_addRow_71 (lv_at hl 0 rfl) ?_
    refine lv_bipush (v := nI 16) hx hb d_Pr_addRow_73 (by decide) ?_
    refine lv_icmp_ge hx hb d_Pr_addRow_75 rfl (fun hc => ?_) (fun hc => ?_)
    · exact absurd hc (nI_ge hk (by decide))
    · refine lv_lload hx hb d_Pr_addRow_78 (lv_at hl 1 rfl) ?_
      refine lv_lconst (v := lN 0) hx hb d_Pr_addRow_80 (by decide) ?_
      refine W.lcmp hx hb d_Pr_addRow_81 ?_
      refine lv_if_eq hx hb d_Pr_addRow_82 rfl (fun hc0 => ?_) (fun hc0 => ?_)
      · have h0 : cy = 0 := (kq_cmp_eq (by omega) (by decide)).mp hc0
        have e : V = T := by
          rw [h0] at hI
          omega
        rw [e]
        exact kk ls locs hlc
      · refine lv_aload_n hx hb d_Pr_addRow_85 rfl (lv_at hl 2 rfl) ?_
        refine kq_get hx hb hts kt_F_Pr hown hK hO1 rfl 4 (by decide) kt_w65 rfl d_Pr_addRow_86 ?_
        refine lv_iload hx hb d_Pr_addRow_89 (lv_at hl 0 rfl) ?_
        refine kq_lald hx hb (hsw) (hk) (by decide) (rfl) d_Pr_addRow_91 ?_
        refine lv_lload hx hb d_Pr_addRow_92 (lv_at hl 1 rfl) ?_
        refine lv_ladd hx hb d_Pr_addRow_94 ?_
        refine kq_rl (show (lN (kw_d V k)) + (lN cy) = lN (kw_d V k + cy) from lN_add _ _) ?_
        refine lv_lstore hx hb d_Pr_addRow_95 hl (by decide) rfl (fun ls hl => ?_)
        have hl : lv_has ls 11 [(9, .long (lN (kw_d V k + cy))), (8, .int (nI k)), (6, .long (lN cy)), (0, .ref h)] := hl
        refine lv_aload_n hx hb d_Pr_addRow_97 rfl (lv_at hl 3 rfl) ?_
        refine kq_get hx hb hts kt_F_Pr hown hK hO1 rfl 4 (by decide) kt_w65 rfl d_Pr_addRow_98 ?_
        refine lv_iload hx hb d_Pr_addRow_101 (lv_at hl 1 rfl) ?_
        refine lv_lload hx hb d_Pr_addRow_103 (lv_at hl 0 rfl) ?_
        refine lv_ldc2 hx hb hown (v := lN 4294967295) (hts _ (List.mem_cons_of_mem _ kt_w211)) d_Pr_addRow_105 ?_
        refine lv_land hx hb d_Pr_addRow_108 ?_
        refine kq_rl (show (lN (kw_d V k + cy)) &&& (lN 4294967295) = lN ((kw_d V k + cy) % 4294967296) from kq_mask _) ?_
        refine kq_last hx hb (hT) (hrow) (hk) (by decide) (Nat.mod_lt _ (by decide)) d_Pr_addRow_109 ?_
        refine kq_rH (kq_set_set _ _ _ _) ?_
        refine lv_lload hx hb d_Pr_addRow_110 (lv_at hl 0 rfl) ?_
        refine lv_bipush (v := nI 32) hx hb d_Pr_addRow_112 (by decide) ?_
        refine lv_lushr (v := lN ((kw_d V k + cy) / 4294967296)) hx hb d_Pr_addRow_114 (kq_ushr32 hs64) ?_
        refine lv_lstore hx hb d_Pr_addRow_115 hl (by decide) rfl (fun ls hl => ?_)
        have hl : lv_has ls 11 [(6, .long (lN ((kw_d V k + cy) / 4294967296))), (9, .long (lN (kw_d V k + cy))), (8, .int (nI k)), (0, .ref h)] := hl
        refine lv_iinc (k := 2) (v := nI (k + 1)) hx hb d_Pr_addRow_117 hl rfl (kq_inc k) (by decide) rfl (fun ls hl => ?_)
        have hl : lv_has ls 11 [(8, .int (nI (k + 1))), (6, .long (lN ((kw_d V k + cy) / 4294967296))), (9, .long (lN (kw_d V k + cy))), (0, .ref h)] := hl
        refine lv_goto hx hb d_Pr_addRow_120 rfl ?_
        refine ih (k + 1) (kw_s V k ((kw_d V k + cy) % 4294967296)) ((kw_d V k + cy) / 4294967296) ls _ (by omega) (kw_s_lt hV hk (Nat.mod_lt _ (by decide))) (by omega) ?_ (t_lc (free := fun q => q = h + 1) hlc rfl) (lv_sub hl [0, 1, 3] rfl)
        rw [kw_M_s]
        exact kp_row_step2 (kw_s_eq V k _) rfl (Nat.div_add_mod _ _).symm hI
set_option maxHeartbeats 4000000 in
set_option maxRecDepth 100000 in
theorem lp_Pr_addRow (hx : p.tables.exec = Jvm.exec) (hb : c.code = b_Pr_addRow) (hts : ∀ w ∈ w_Pr_addRow, w.before args s = true) (hown : s.vm.findClass R_Pr = some m.cls) {E : kr_E} {h pa ga gw : Nat} {H : Heap} {V0 : Nat} (hT : ArrOfT s (kr_c E) .long) (hK : va_K (kr_D E) kr_cl (kr_t E) s) (hO : ∀ V : Nat, va_P (kr_D E) kr_cl [(h, .inr (1, [.ref pa, .ref ga, .int (nI gw), .ref (h + 6), .ref (h + 1), .ref (h + 2), .ref (h + 3), .ref (h + 4), .ref (h + 5)]))] (kq_set H (h + 1) (kq_L (kr_c E) 16 V))) (hw : H[h + 1]? = some (kq_L (kr_c E) 16 V0)) {row f Rv at1 wn : Nat} (hsr : ∀ V : Nat, kq_sL s (kq_set H (h + 1) (kq_L (kr_c E) 16 V)) row 8 Rv) (hf : f < 4294967296) (hwn : wn ≤ 8) (hat : at1 + wn ≤ 16)
    (kk : ∀ (V cy : Nat) (ls : Array Slot) (locs : List Loc), V < kw_M 16 → cy < 4294967296 → V + cy * kw_M (at1 + wn) = V0 + f * (Rv % kw_M wn) * kw_M at1 → (∀ q ∈ locs, q.base = h + 1) → lv_has ls 11 [(6, .long (lN cy)), (0, .ref h), (4, .int (nI wn)), (5, .int (nI at1))] → W p l e R s m args below meth c (kq_set H (h + 1) (kq_L (kr_c E) 16 V)) locs cells slots Q (F0 m 64 ls [])) :
    ∀ (n j V cy : Nat) (ls : Array Slot) (locs : List Loc), j + n = wn → V < kw_M 16 → cy < 4294967296 → V + cy * kw_M (at1 + j) = V0 + f * (Rv % kw_M j) * kw_M at1 → (∀ q ∈ locs, q.base = h + 1) → lv_has ls 11 [(8, .int (nI j)), (6, .long (lN cy)), (0, .ref h), (1, .long (lN f)), (3, .ref row), (4, .int (nI wn)), (5, .int (nI at1))] → W p l e R s m args below meth c (kq_set H (h + 1) (kq_L (kr_c E) 16 V)) locs cells slots Q (F0 m 6 ls []) := by
  intro n
  induction n with
  | zero =>
    intro j V cy ls locs hn hV hcy hI hlc hl
    obtain rfl : j = wn := by omega
    refine lv_iload hx hb d_Pr_addRow_6 (lv_at hl 0 rfl) ?_
    refine lv_iload hx hb d_Pr_addRow_8 (lv_at hl 5 rfl) ?_
    refine lv_icmp_ge hx hb d_Pr_addRow_10 rfl (fun hc => ?_) (fun hc => ?_)
    · exact kk V cy ls locs hV hcy hI hlc (lv_sub hl [1, 2, 5, 6] rfl)
    · exact absurd (nI_le (Nat.le_refl j) (by omega)) hc
  | succ n ih =>
    intro j V cy ls locs hn hV hcy hI hlc hl
    have hj : j < wn := by omega
    have hk : at1 + j < 16 := by omega
    have lV := kw_d_lt V (at1 + j)
    have lR := kw_d_lt Rv j
    have hO1 := hO V
    have hrow := kq_set_at (x := kq_L (kr_c E) 16 V) hw
    have hsw : kq_r s .long (kq_set H (h + 1) (kq_L (kr_c E) 16 V)) (h + 1) 16 (fun j => .long (lN (kw_d V j))) := kq_r.ofV hT hrow
    have hs64 : f * kw_d Rv j + kw_d V (at1 + j) + cy < 18446744073709551616 := kp_s64 hf lR lV hcy
    refine lv_iload hx hb d_Pr_addRow_6 (lv_at hl 0 rfl) ?_
    refine lv_iload hx hb d_Pr_addRow_8 (lv_at hl 5 rfl) ?_
    refine lv_icmp_ge hx hb d_Pr_addRow_10 rfl (fun hc => ?_) (fun hc => ?_)
    · exact absurd hc (nI_ge hj (by omega))
    · refine lv_lload_n hx hb d_Pr_addRow_13 rfl (lv_at hl 3 rfl) ?_
      refine lv_aload_n hx hb d_Pr_addRow_14 rfl (lv_at hl 4 rfl) ?_
      refine lv_iload hx hb d_Pr_addRow_15 (lv_at hl 0 rfl) ?_
      refine kq_lald hx hb (hsr V) ((by omega)) (by decide) (rfl) d_Pr_addRow_17 ?_
      refine lv_lmul hx hb d_Pr_addRow_18 ?_
      refine kq_rl (show (lN f) * (lN (kw_d Rv j)) = lN (f * kw_d Rv j) from lN_mul _ _) ?_
      refine lv_aload_n hx hb d_Pr_addRow_19 rfl (lv_at hl 2 rfl) ?_
      refine kq_get hx hb hts kt_F_Pr hown hK hO1 rfl 4 (by decide) kt_w65 rfl d_Pr_addRow_20 ?_
      refine lv_iload hx hb d_Pr_addRow_23 (lv_at hl 6 rfl) ?_
      refine lv_iload hx hb d_Pr_addRow_25 (lv_at hl 0 rfl) ?_
      refine lv_iadd hx hb d_Pr_addRow_27 ?_
      refine kq_ri (show (nI at1) + (nI j) = nI (at1 + j) from nI_add _ _) ?_
      refine kq_lald hx hb (hsw) (hk) (by decide) (rfl) d_Pr_addRow_28 ?_
      refine lv_ladd hx hb d_Pr_addRow_29 ?_
      refine kq_rl (show (lN (f * kw_d Rv j)) + (lN (kw_d V (at1 + j))) = lN (f * kw_d Rv j + kw_d V (at1 + j)) from lN_add _ _) ?_
      refine lv_lload hx hb d_Pr_addRow_30 (lv_at hl 1 rfl) ?_
      refine lv_ladd hx hb d_Pr_addRow_32 ?_
      refine kq_rl (show (lN (f * kw_d Rv j + kw_d V (at1 + j))) + (lN cy) = lN (f * kw_d Rv j + kw_d V (at1 + j) + cy) from lN_add _ _) ?_
      refine lv_lstore hx hb d_Pr_addRow_33 hl (by decide) rfl (fun ls hl => ?_)
      have hl : lv_has ls 11 [(9, .long (lN (f * kw_d Rv j + kw_d V (at1 + j) + cy))), (8, .int (nI j)), (6, .long (lN cy)), (0, .ref h), (1, .long (lN f)), (3, .ref row), (4, .int (nI wn)), (5, .int (nI at1))] := hl
      refine lv_aload_n hx hb d_Pr_addRow_35 rfl (lv_at hl 3 rfl) ?_
      refine kq_get hx hb hts kt_F_Pr hown hK hO1 rfl 4 (by decide) kt_w65 rfl d_Pr_addRow_36 ?_
      refine lv_iload hx hb d_Pr_addRow_39 (lv_at hl 7 rfl) ?_
      refine lv_iload hx hb d_Pr_addRow_41 (lv_at hl 1 rfl) ?_
      refine lv_iadd hx hb d_Pr_addRow_43 ?_
      refine kq_ri (show (nI at1) + (nI j) = nI (at1 + j) from nI_add _ _) ?_
      refine lv_lload hx hb d_Pr_addRow_44 (lv_at hl 0 rfl) ?_
      refine lv_ldc2 hx hb hown (v := lN 4294967295) (hts _ (List.mem_cons_of_mem _ kt_w211)) d_Pr_addRow_46 ?_
      refine lv_land hx hb d_Pr_addRow_49 ?_
      refine kq_rl (show (lN (f * kw_d Rv j + kw_d V (at1 + j) + cy)) &&& (lN 4294967295) = lN ((f * kw_d Rv j + kw_d V (at1 + j) + cy) % 4294967296) from kq_mask _) ?_
      refine kq_last hx hb (hT) (hrow) (hk) (by decide) (Nat.mod_lt _ (by decide)) d_Pr_addRow_50 ?_
      refine kq_rH (kq_set_set _ _ _ _) ?_
      refine lv_lload hx hb d_Pr_addRow_51 (lv_at hl 0 rfl) ?_
      refine lv_bipush (v := nI 32) hx hb d_Pr_addRow_53 (by decide) ?_
      refine lv_lushr (v := lN ((f * kw_d Rv j + kw_d V (at1 + j) + cy) / 4294967296)) hx hb d_Pr_addRow_55 (kq_ushr32 hs64) ?_
      refine lv_lstore hx hb d_Pr_addRow_56 hl (by decide) rfl (fun ls hl => ?_)
      have hl : lv_has ls 11 [(6, .long (lN ((f * kw_d Rv j + kw_d V (at1 + j) + cy) / 4294967296))), (9, .long (lN (f * kw_d Rv j + kw_d V (at1 + j) + cy))), (8, .int (nI j)), (0, .ref h), (1, .long (lN f)), (3, .ref row), (4, .int (nI wn)), (5, .int (nI at1))] := hl
      refine lv_iinc (k := 2) (v := nI (j + 1)) hx hb d_Pr_addRow_58 hl rfl (kq_inc j) (by decide) rfl (fun ls hl => ?_)
      have hl : lv_has ls 11 [(8, .int (nI (j + 1))), (6, .long (lN ((f * kw_d Rv j + kw_d V (at1 + j) + cy) / 4294967296))), (9, .long (lN (f * kw_d Rv j + kw_d V (at1 + j) + cy))), (0, .ref h), (1, .long (lN f)), (3, .ref row), (4, .int (nI wn)), (5, .int (nI at1))] := hl
      refine lv_goto hx hb d_Pr_addRow_61 rfl ?_
      refine ih (j + 1) (kw_s V (at1 + j) ((f * kw_d Rv j + kw_d V (at1 + j) + cy) % 4294967296)) ((f * kw_d Rv j + kw_d V (at1 + j) + cy) / 4294967296) ls _ (by omega) (kw_s_lt hV hk (Nat.mod_lt _ (by decide))) (by omega) ?_ (t_lc (free := fun q => q = h + 1) hlc rfl) (lv_sub hl [0, 1, 3, 4, 5, 6, 7] rfl)
      rw [← Nat.add_assoc, kw_M_s, kw_d_lo]
      exact kp_row_step (kw_s_eq V (at1 + j) _) rfl (Nat.div_add_mod _ _).symm (kw_M_add at1 j) hI
end
set_option maxHeartbeats 4000000 in
set_option maxRecDepth 100000 in
theorem c_Pr_addRow (l : Launch) (E : kr_E) (h pa ga gw mm G : Nat) (v : Nat → Nat) (H : Heap) (hE : kr_ok E) (hP : kr_P E h pa ga gw mm G) (hW : kr_W E v H) (row f at1 wn : Nat) (hrow : kr_in E row) (hf : f < 4294967296) (hwn : wn ≤ 8) (hat : at1 + wn ≤ 16) (hTl : v (h + 1) + f * (v row % kw_M wn) * kw_M at1 < kw_M 16) : Met l y_Pr_addRow w_Pr_addRow ({ frames := 0, cells := 0, slots := 0, locals := 0 }) (kq_P [.ref h, .long (lN f), .ref row, .int (nI wn), .int (nI at1)] H (kr_B E)) (kq_Q (fun o H1 => o = none ∧ kr_W E (va_up v (h + 1) (v (h + 1) + f * (v row % kw_M wn) * kw_M at1)) H1)) 0 0 (fun q => q = h + 1) := by
  refine Met.ofW (cc := b_Pr_addRow) (maxL := 11) (ret := none) (by decide) rfl ?_
  intro p e s m args below meth c s₁ B0 hml hv
  obtain ⟨rfl, hH, hB⟩ := hv
  have hx := B0.exec
  have hb := B0.bytes
  have hret := B0.returns
  have hts := atoms_spec (ws := w_Pr_addRow) B0.pre
  have hown : s.vm.findClass R_Pr = some m.cls := findClass_of_methodNamed B0.named
  have hlocks := B0.notSynchronized
  rw [hH]
  have hl := lv_entry ([.ref h, .long (lN f), .ref row, .int (nI wn), .int (nI at1)]) (n := 11) (Nat.le_of_ble_eq_true rfl)
  rw [lg_entry_eq]
  generalize (lg_sl ([.ref h, .long (lN f), .ref row, .int (nI wn), .int (nI at1)]) ++ List.replicate (11 - (lg_sl ([.ref h, .long (lN f), .ref row, .int (nI wn), .int (nI at1)])).length) Slot.unset).toArray = ls at hl ⊢
  have hl : lv_has ls 11 [(0, .ref h), (1, .long (lN f)), (3, .ref row), (4, .int (nI wn)), (5, .int (nI at1))] := hl
  have hT := kr_T hE hB
  have hK := hB.1
  have hwd := hP.2.2.2.2.2.2.2.2.1
  have hw : H[h + 1]? = some (kq_L (kr_c E) 16 (v (h + 1))) := by
    have q := hW.2.1 (h + 1) hwd.1
    rw [hwd.2] at q
    exact q
  have hVl : v (h + 1) < kw_M 16 := by
    have q := hW.2.2.2.1 (h + 1) hwd.1
    rw [hwd.2] at q
    exact q
  have hO0 := kr_obj hW hP.1 hP.2.1
  have hne : h ≠ h + 1 := by omega
  have hO : ∀ V : Nat, va_P (kr_D E) kr_cl [(h, .inr (1, [.ref pa, .ref ga, .int (nI gw), .ref (h + 6), .ref (h + 1), .ref (h + 2), .ref (h + 3), .ref (h + 4), .ref (h + 5)]))] (kq_set H (h + 1) (kq_L (kr_c E) 16 V)) := fun V => hO0.kept (fun k q hk => by
    have h0 : k < 1 := (List.getElem?_eq_some_iff.mp hk).1
    rw [show k = 0 by omega] at hk
    cases hk
    exact kq_set_ne hne)
  have hsr : ∀ V : Nat, kq_sL s (kq_set H (h + 1) (kq_L (kr_c E) 16 V)) row 8 (v row) := fun V => (kr_src hE hW hB hrow).other (kq_set_ne (kr_in_ne hE hP hrow))
  refine lv_lconst (v := lN 0) hx hb d_Pr_addRow_0 (by decide) ?_
  refine lv_lstore hx hb d_Pr_addRow_1 hl (by decide) rfl (fun ls hl => ?_)
  have hl : lv_has ls 11 [(6, .long (lN 0)), (0, .ref h), (1, .long (lN f)), (3, .ref row), (4, .int (nI wn)), (5, .int (nI at1))] := hl
  refine lv_iconst (v := nI 0) hx hb d_Pr_addRow_3 (by decide) ?_
  refine lv_istore hx hb d_Pr_addRow_4 hl (by decide) rfl (fun ls hl => ?_)
  have hl : lv_has ls 11 [(8, .int (nI 0)), (6, .long (lN 0)), (0, .ref h), (1, .long (lN f)), (3, .ref row), (4, .int (nI wn)), (5, .int (nI at1))] := hl
  refine kq_rH (kq_set_self hw).symm ?_
  refine lp_Pr_addRow hx hb hts hown hT hK hO hw hsr hf hwn hat (fun V cy ls locs hV hcy hI hlc hl => ?_) wn 0 (v (h + 1)) 0 ls [] (by omega) hVl (by decide) (by rw [kw_M_0, Nat.mod_one, Nat.zero_mul, Nat.mul_zero, Nat.zero_mul]) (fun q h => by cases h) (lv_sub hl [0, 1, 2, 3, 4, 5, 6] rfl)
  refine lv_iload hx hb d_Pr_addRow_64 (lv_at hl 3 rfl) ?_
  refine lv_iload hx hb d_Pr_addRow_66 (lv_at hl 2 rfl) ?_
  refine lv_iadd hx hb d_Pr_addRow_68 ?_
  refine kq_ri (show (nI at1) + (nI wn) = nI (at1 + wn) from nI_add _ _) ?_
  refine lv_istore hx hb d_Pr_addRow_69 hl (by decide) rfl (fun ls hl => ?_)
  have hl : lv_has ls 11 [(8, .int (nI (at1 + wn))), (6, .long (lN cy)), (0, .ref h), (4, .int (nI wn)), (5, .int (nI at1))] := hl
  refine lq_Pr_addRow hx hb hts hown hT hK hO hw hTl (fun ls locs hlc => ?_) (16 - (at1 + wn)) (at1 + wn) V cy ls locs (by omega) hV hcy hI hlc (lv_sub hl [0, 1, 2] rfl)
  exact W.vret hx hb hret (fun t ht _ => ⟨_, rfl, rfl, by rw [ht]; exact kr_putn hE hW hwd.1 hwd.2 hTl⟩) hlc d_Pr_addRow_123
