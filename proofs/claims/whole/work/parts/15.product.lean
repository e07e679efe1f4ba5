/-! KeyCurve$Prime: product (own rows). -/
theorem d_Pr_product_0 : decode b_Pr_product 0 = .ok (.iconst 0, 1) := by decide +kernel
theorem d_Pr_product_1 : decode b_Pr_product 1 = .ok (.istore 4, 2) := by decide +kernel
theorem d_Pr_product_3 : decode b_Pr_product 3 = .ok (.iload 4, 2) := by decide +kernel
theorem d_Pr_product_5 : decode b_Pr_product 5 = .ok (.bipush 16, 2) := by decide +kernel
theorem d_Pr_product_7 : decode b_Pr_product 7 = .ok (.if_icmp .ge 17, 3) := by decide +kernel
theorem d_Pr_product_10 : decode b_Pr_product 10 = .ok (.aload_n 0, 1) := by decide +kernel
theorem d_Pr_product_11 : decode b_Pr_product 11 = .ok (.getfield 9, 3) := by decide +kernel
theorem d_Pr_product_14 : decode b_Pr_product 14 = .ok (.iload 4, 2) := by decide +kernel
theorem d_Pr_product_16 : decode b_Pr_product 16 = .ok (.lconst 0, 1) := by decide +kernel
theorem d_Pr_product_17 : decode b_Pr_product 17 = .ok (.lastore, 1) := by decide +kernel
theorem d_Pr_product_18 : decode b_Pr_product 18 = .ok (.iinc 4 1, 3) := by decide +kernel
theorem d_Pr_product_21 : decode b_Pr_product 21 = .ok (.goto (-18), 3) := by decide +kernel
theorem d_Pr_product_24 : decode b_Pr_product 24 = .ok (.iconst 0, 1) := by decide +kernel
theorem d_Pr_product_25 : decode b_Pr_product 25 = .ok (.istore 4, 2) := by decide +kernel
theorem d_Pr_product_27 : decode b_Pr_product 27 = .ok (.iload 4, 2) := by decide +kernel
theorem d_Pr_product_29 : decode b_Pr_product 29 = .ok (.bipush 8, 2) := by decide +kernel
theorem d_Pr_product_31 : decode b_Pr_product 31 = .ok (.if_icmp .ge 22, 3) := by decide +kernel
theorem d_Pr_product_34 : decode b_Pr_product 34 = .ok (.aload_n 0, 1) := by decide +kernel
theorem d_Pr_product_35 : decode b_Pr_product 35 = .ok (.aload_n 2, 1) := by decide +kernel
theorem d_Pr_product_36 : decode b_Pr_product 36 = .ok (.iload 4, 2) := by decide +kernel
theorem d_Pr_product_38 : decode b_Pr_product 38 = .ok (.laload, 1) := by decide +kernel
theorem d_Pr_product_39 : decode b_Pr_product 39 = .ok (.aload_n 3, 1) := by decide +kernel
theorem d_Pr_product_40 : decode b_Pr_product 40 = .ok (.bipush 8, 2) := by decide +kernel
theorem d_Pr_product_42 : decode b_Pr_product 42 = .ok (.iload 4, 2) := by decide +kernel
theorem d_Pr_product_44 : decode b_Pr_product 44 = .ok (.invokevirtual 60, 3) := by decide +kernel
theorem d_Pr_product_47 : decode b_Pr_product 47 = .ok (.iinc 4 1, 3) := by decide +kernel
theorem d_Pr_product_50 : decode b_Pr_product 50 = .ok (.goto (-23), 3) := by decide +kernel
theorem d_Pr_product_53 : decode b_Pr_product 53 = .ok (.iconst 0, 1) := by decide +kernel
theorem d_Pr_product_54 : decode b_Pr_product 54 = .ok (.istore 4, 2) := by decide +kernel
theorem d_Pr_product_56 : decode b_Pr_product 56 = .ok (.iload 4, 2) := by decide +kernel
theorem d_Pr_product_58 : decode b_Pr_product 58 = .ok (.iconst 4, 1) := by decide +kernel
theorem d_Pr_product_59 : decode b_Pr_product 59 = .ok (.if_icmp .ge 20, 3) := by decide +kernel
theorem d_Pr_product_62 : decode b_Pr_product 62 = .ok (.aload_n 0, 1) := by decide +kernel
theorem d_Pr_product_63 : decode b_Pr_product 63 = .ok (.invokevirtual 64, 3) := by decide +kernel
theorem d_Pr_product_66 : decode b_Pr_product 66 = .ok (.ifCond .eq 13, 3) := by decide +kernel
theorem d_Pr_product_69 : decode b_Pr_product 69 = .ok (.aload_n 0, 1) := by decide +kernel
theorem d_Pr_product_70 : decode b_Pr_product 70 = .ok (.invokevirtual 68, 3) := by decide +kernel
theorem d_Pr_product_73 : decode b_Pr_product 73 = .ok (.iinc 4 1, 3) := by decide +kernel
theorem d_Pr_product_76 : decode b_Pr_product 76 = .ok (.goto (-20), 3) := by decide +kernel
theorem d_Pr_product_79 : decode b_Pr_product 79 = .ok (.aload_n 1, 1) := by decide +kernel
theorem d_Pr_product_80 : decode b_Pr_product 80 = .ok (.aload_n 0, 1) := by decide +kernel
theorem d_Pr_product_81 : decode b_Pr_product 81 = .ok (.getfield 9, 3) := by decide +kernel
theorem d_Pr_product_84 : decode b_Pr_product 84 = .ok (.invokestatic 71, 3) := by decide +kernel
theorem d_Pr_product_87 : decode b_Pr_product 87 = .ok (.aload_n 0, 1) := by decide +kernel
theorem d_Pr_product_88 : decode b_Pr_product 88 = .ok (.aload_n 1, 1) := by decide +kernel
theorem d_Pr_product_89 : decode b_Pr_product 89 = .ok (.invokevirtual 53, 3) := by decide +kernel
theorem d_Pr_product_92 : decode b_Pr_product 92 = .ok (.return_, 1) := by decide +kernel
section
variable {p : Program} {l : Launch} {e : Env} {R : Room} {s : State} {m : MethodId} {args : Array Value} {below : List Frame} {meth : Method} {c : Code} {cells slots : Nat} {Q : State → Prop}
set_option maxHeartbeats 4000000 in
set_option maxRecDepth 100000 in
theorem la_Pr_product (hx : p.tables.exec = Jvm.exec) (hb : c.code = b_Pr_product) (hts : ∀ w ∈ w_Pr_product, w.before args s = true) (hown : s.vm.findClass R_Pr = some m.cls) {E : kr_E} {h pa ga gw mm G : Nat} (hE : kr_ok E) (hP : kr_P E h pa ga gw mm G) (hB : kr_B E s) {r a b : Nat} {v : Nat → Nat}
    (kk : ∀ (w : Nat → Nat) (H : Heap) (ls : Array Slot) (locs : List Loc), kr_W E w H → w (h + 1) = 0 → (∀ q, q ≠ h + 1 → w q = v q) → (∀ q ∈ locs, q.base = h + 1) → lv_has ls 5 [(0, .ref h), (1, .ref r), (2, .ref a), (3, .ref b)] → W p l e R s m args below meth c H locs 0 0 Q (F0 m 24 ls [])) :
    ∀ (n i : Nat) (w : Nat → Nat) (H : Heap) (ls : Array Slot) (locs : List Loc), i + n = 16 → kr_W E w H → w (h + 1) % kw_M i = 0 → (∀ q, q ≠ h + 1 → w q = v q) → (∀ q ∈ locs, q.base = h + 1) → lv_has ls 5 [(4, .int (nI i)), (0, .ref h), (1, .ref r), (2, .ref a), (3, .ref b)] → W p l e R s m args below meth c H locs 0 0 Q (F0 m 3 ls []) := by
  intro n
  induction n with
  | zero =>
    intro i w H ls locs hn hW h1 ho hlc hl
    obtain rfl : i = 16 := by omega
    refine lv_iload hx hb d_Pr_product_3 (lv_at hl 0 rfl) ?_
    refine lv_bipush (v := nI 16) hx hb d_Pr_product_5 (by decide) ?_
    refine lv_icmp_ge hx hb d_Pr_product_7 rfl (fun hc => ?_) (fun hc => ?_)
    · rw [Nat.mod_eq_of_lt (kr_wide hP hW).2] at h1
      exact kk w H ls locs hW h1 ho hlc (lv_sub hl [1, 2, 3, 4] rfl)
    · exact absurd (nI_le (Nat.le_refl 16) (by decide)) hc
  | succ n ih =>
    intro i w H ls locs hn hW h1 ho hlc hl
    have hi : i < 16 := by omega
    have hK := hB.1
    have hT := kr_T hE hB
    have hwd := hP.2.2.2.2.2.2.2.2.1
    have hO := kr_obj hW hP.1 hP.2.1
    obtain ⟨hw1, hw2⟩ := kr_wide hP hW
    have hW1 := kr_putn hE hW hwd.1 hwd.2 (kw_s_lt hw2 hi (show 0 < 4294967296 by decide))
    refine lv_iload hx hb d_Pr_product_3 (lv_at hl 0 rfl) ?_
    refine lv_bipush (v := nI 16) hx hb d_Pr_product_5 (by decide) ?_
    refine lv_icmp_ge hx hb d_Pr_product_7 rfl (fun hc => ?_) (fun hc => ?_)
    · exact absurd hc (nI_ge hi (by decide))
    · refine lv_aload_n hx hb d_Pr_product_10 rfl (lv_at hl 1 rfl) ?_
      refine kq_get hx hb hts kt_F_Pr hown hK hO rfl 4 (by decide) kt_w65 rfl d_Pr_product_11 ?_
      refine lv_iload hx hb d_Pr_product_14 (lv_at hl 0 rfl) ?_
      refine lv_lconst (v := lN 0) hx hb d_Pr_product_16 (by decide) ?_
      refine kq_last hx hb (hT) (hw1) (hi) (by decide) ((by decide)) d_Pr_product_17 ?_
      refine lv_iinc (k := 0) (v := nI (i + 1)) hx hb d_Pr_product_18 hl rfl (kq_inc i) (by decide) rfl (fun ls hl => ?_)
      have hl : lv_has ls 5 [(4, .int (nI (i + 1))), (0, .ref h), (1, .ref r), (2, .ref a), (3, .ref b)] := hl
      refine lv_goto hx hb d_Pr_product_21 rfl ?_
      refine ih (i + 1) _ _ ls _ (by omega) hW1 ?_ (fun q hq => by rw [kq_up_ne hq]; exact ho q hq) (t_lc (free := fun q => q = h + 1) hlc rfl) (lv_sub hl [0, 1, 2, 3, 4] rfl)
      rw [kq_up_at, kw_s_lo _ _ _ (by decide), h1]
      rfl
set_option maxHeartbeats 4000000 in
set_option maxRecDepth 100000 in
theorem lb_Pr_product (hx : p.tables.exec = Jvm.exec) (hb : c.code = b_Pr_product) (hts : ∀ w ∈ w_Pr_product, w.before args s = true) (hown : s.vm.findClass R_Pr = some m.cls) (hml : c.maxLocals = 5) (hRf : 1 ≤ R.frames) (hRl : 30 ≤ R.locals) {E : kr_E} {h pa ga gw mm G : Nat} (hE : kr_ok E) (hP : kr_P E h pa ga gw mm G) (hB : kr_B E s) {r a b : Nat} {v : Nat → Nat} (ha : kr_in E a) (hb0 : kr_in E b) (hla : v a < kw_M 8) (hlb : v b < kw_M 8)
    (kk : ∀ (w : Nat → Nat) (H : Heap) (ls : Array Slot) (locs : List Loc), kr_W E w H → w (h + 1) = v a * v b → (∀ q, q ≠ h + 1 → w q = v q) → (∀ q ∈ locs, q.base = h + 1) → lv_has ls 5 [(0, .ref h), (1, .ref r)] → W p l e R s m args below meth c H locs 0 0 Q (F0 m 53 ls [])) :
    ∀ (n i : Nat) (w : Nat → Nat) (H : Heap) (ls : Array Slot) (locs : List Loc), i + n = 8 → kr_W E w H → w (h + 1) = v a % kw_M i * v b → (∀ q, q ≠ h + 1 → w q = v q) → (∀ q ∈ locs, q.base = h + 1) → lv_has ls 5 [(4, .int (nI i)), (0, .ref h), (1, .ref r), (2, .ref a), (3, .ref b)] → W p l e R s m args below meth c H locs 0 0 Q (F0 m 27 ls []) := by
  intro n
  induction n with
  | zero =>
    intro i w H ls locs hn hW h1 ho hlc hl
    obtain rfl : i = 8 := by omega
    refine lv_iload hx hb d_Pr_product_27 (lv_at hl 0 rfl) ?_
    refine lv_bipush (v := nI 8) hx hb d_Pr_product_29 (by decide) ?_
    refine lv_icmp_ge hx hb d_Pr_product_31 rfl (fun hc => ?_) (fun hc => ?_)
    · rw [Nat.mod_eq_of_lt hla] at h1
      exact kk w H ls locs hW h1 ho hlc (lv_sub hl [1, 2] rfl)
    · exact absurd (nI_le (Nat.le_refl 8) (by decide)) hc
  | succ n ih =>
    intro i w H ls locs hn hW h1 ho hlc hl
    have hi : i < 8 := by omega
    have hO := kr_obj hW hP.1 hP.2.1
    have hsa := kr_src hE hW hB ha
    rw [ho a (kr_in_ne hE hP ha)] at hsa
    have hvb := ho b (kr_in_ne hE hP hb0)
    have lX := kw_d_lt (v a) i
    have hstep : v a % kw_M (i + 1) * v b = v a % kw_M i * v b + kw_d (v a) i * v b * kw_M i := by
      rw [kw_d_lo, Nat.add_mul, Nat.mul_comm (kw_M i), Nat.mul_assoc, Nat.mul_comm (kw_M i) (v b), ← Nat.mul_assoc]
    have hle : v a % kw_M (i + 1) * v b ≤ (kw_M 8 - 1) * (kw_M 8 - 1) := Nat.mul_le_mul (Nat.le_trans (Nat.mod_le _ _) (by omega)) (by omega)
    have hTl : w (h + 1) + kw_d (v a) i * (w b % kw_M 8) * kw_M i < kw_M 16 := by
      rw [h1, hvb, Nat.mod_eq_of_lt hlb, ← hstep, kw_M_16]
      rw [kw_M_8] at hle ⊢
      omega
    refine lv_iload hx hb d_Pr_product_27 (lv_at hl 0 rfl) ?_
    refine lv_bipush (v := nI 8) hx hb d_Pr_product_29 (by decide) ?_
    refine lv_icmp_ge hx hb d_Pr_product_31 rfl (fun hc => ?_) (fun hc => ?_)
    · exact absurd hc (nI_ge hi (by decide))
    · refine lv_aload_n hx hb d_Pr_product_34 rfl (lv_at hl 1 rfl) ?_
      refine lv_aload_n hx hb d_Pr_product_35 rfl (lv_at hl 3 rfl) ?_
      refine lv_iload hx hb d_Pr_product_36 (lv_at hl 0 rfl) ?_
      refine kq_lald hx hb (hsa) (hi) (by decide) (rfl) d_Pr_product_38 ?_
      refine lv_aload_n hx hb d_Pr_product_39 rfl (lv_at hl 4 rfl) ?_
      refine lv_bipush (v := nI 8) hx hb d_Pr_product_40 (by decide) ?_
      refine lv_iload hx hb d_Pr_product_42 (lv_at hl 0 rfl) ?_
      refine kq_call (va_runV (As := [.long (lN (kw_d (v a) i)), .ref b, .int (nI 8), .int (nI i)]) (rest := []) ⟨hx, hb, hml, hown, hts⟩ (c_Pr_addRow l E h pa ga gw mm G w H hE hP hW b (kw_d (v a) i) i 8 hb0 lX (by decide) (by omega) hTl) (cwV 4 hts (kt_inV kt_w210 kt_w207 kt_w209 kt_s2 kt_w3) rfl rfl rfl (by decide +kernel) ⟨Nat.le_trans (Nat.le_of_ble_eq_true rfl) hRf, Nat.le_trans (Nat.le_of_ble_eq_true rfl) hRl⟩) (kq_preV (kr_st E) (hB) (kq_recv hB.1 hO rfl)) rfl rfl hl.1 rfl (lv_room (Nat.le_of_ble_eq_true rfl)) d_Pr_product_44 ⟨Nat.zero_le _, Nat.zero_le _⟩) (fun v9 H9 L9 hq9 hL9 => ?_)
      obtain ⟨rfl, hW9⟩ := hq9
      refine W.eq (g2 := F0 m 47 ls []) rfl ?_
      refine lv_iinc (k := 0) (v := nI (i + 1)) hx hb d_Pr_product_47 hl rfl (kq_inc i) (by decide) rfl (fun ls hl => ?_)
      have hl : lv_has ls 5 [(4, .int (nI (i + 1))), (0, .ref h), (1, .ref r), (2, .ref a), (3, .ref b)] := hl
      refine lv_goto hx hb d_Pr_product_50 rfl ?_
      refine ih (i + 1) _ H9 ls _ (by omega) hW9 ?_ (fun q hq => by rw [kq_up_ne hq]; exact ho q hq) (t_lL (free := fun q => q = h + 1) hlc hL9) (lv_sub hl [0, 1, 2, 3, 4] rfl)
      rw [kq_up_at, h1, hvb, Nat.mod_eq_of_lt hlb, hstep]
set_option maxHeartbeats 4000000 in
set_option maxRecDepth 100000 in
theorem lc_Pr_product (hx : p.tables.exec = Jvm.exec) (hb : c.code = b_Pr_product) (hts : ∀ w ∈ w_Pr_product, w.before args s = true) (hown : s.vm.findClass R_Pr = some m.cls) (hml : c.maxLocals = 5) (hRf : 2 ≤ R.frames) (hRl : 51 ≤ R.locals) {E : kr_E} {h pa ga gw mm G : Nat} (hE : kr_ok E) (hP : kr_P E h pa ga gw mm G) (hB : kr_B E s) {r V : Nat} {v : Nat → Nat}
    (kk : ∀ (w : Nat → Nat) (H : Heap) (ls : Array Slot) (locs : List Loc), kr_W E w H → w (h + 1) < kw_M 8 → w (h + 1) % mm = V % mm → (∀ q, q ≠ h + 1 → q ≠ h + 2 → w q = v q) → (∀ q ∈ locs, q.base = h + 1 ∨ q.base = h + 2) → lv_has ls 5 [(0, .ref h), (1, .ref r)] → W p l e R s m args below meth c H locs 0 0 Q (F0 m 79 ls [])) :
    ∀ (n i : Nat) (w : Nat → Nat) (H : Heap) (ls : Array Slot) (locs : List Loc), i + n = 4 → kr_W E w H → w (h + 1) % mm = V % mm → kp_folds G n (w (h + 1)) < kw_M 8 → (∀ q, q ≠ h + 1 → q ≠ h + 2 → w q = v q) → (∀ q ∈ locs, q.base = h + 1 ∨ q.base = h + 2) → lv_has ls 5 [(4, .int (nI i)), (0, .ref h), (1, .ref r)] → W p l e R s m args below meth c H locs 0 0 Q (F0 m 56 ls []) := by
  intro n
  induction n with
  | zero =>
    intro i w H ls locs hn hW h1 h2 ho hlc hl
    obtain rfl : i = 4 := by omega
    refine lv_iload hx hb d_Pr_product_56 (lv_at hl 0 rfl) ?_
    refine lv_iconst (v := nI 4) hx hb d_Pr_product_58 (by decide) ?_
    refine lv_icmp_ge hx hb d_Pr_product_59 rfl (fun hc => ?_) (fun hc => ?_)
    · exact kk w H ls locs hW h2 h1 ho hlc (lv_sub hl [1, 2] rfl)
    · exact absurd (nI_le (Nat.le_refl 4) (by decide)) hc
  | succ n ih =>
    intro i w H ls locs hn hW h1 h2 ho hlc hl
    have hi : i < 4 := by omega
    have hO := kr_obj hW hP.1 hP.2.1
    have hok := hP.2.2.2.2.1
    have hVl := (kr_wide hP hW).2
    refine lv_iload hx hb d_Pr_product_56 (lv_at hl 0 rfl) ?_
    refine lv_iconst (v := nI 4) hx hb d_Pr_product_58 (by decide) ?_
    refine lv_icmp_ge hx hb d_Pr_product_59 rfl (fun hc => ?_) (fun hc => ?_)
    · exact absurd hc (nI_ge hi (by decide))
    · refine lv_aload_n hx hb d_Pr_product_62 rfl (lv_at hl 1 rfl) ?_
      refine kq_call (va_runV (As := []) (rest := []) ⟨hx, hb, hml, hown, hts⟩ (c_Pr_takeHigh l E h pa ga gw mm G w H hE hP hW) (cwV 0 hts (kt_inV kt_w215 kt_w212 kt_w214 kt_s3 kt_w3) rfl rfl rfl (by decide +kernel) ⟨Nat.le_trans (Nat.le_of_ble_eq_true rfl) hRf, Nat.le_trans (Nat.le_of_ble_eq_true rfl) hRl⟩) (kq_preV (kr_st E) (hB) (kq_recv hB.1 hO rfl)) rfl rfl hl.1 rfl (lv_room (Nat.le_of_ble_eq_true rfl)) d_Pr_product_63 ⟨Nat.zero_le _, Nat.zero_le _⟩) (fun v9 H9 L9 hq9 hL9 => ?_)
      obtain ⟨rfl, w9, hW9, e1, e2, ho9⟩ := hq9
      refine W.eq (g2 := F0 m 66 ls [.int (kq_z (decide (¬ w (h + 1) / kw_M 8 = 0)))]) rfl ?_
      refine lv_if_eq hx hb d_Pr_product_66 rfl (fun hc0 => ?_) (fun hc0 => ?_)
      · have h0 : w (h + 1) / kw_M 8 = 0 := Classical.not_not.mp (kq_z_eq.mp hc0)
        have e0 : w9 (h + 1) = w (h + 1) := by
          have q := Nat.div_add_mod (w (h + 1)) (kw_M 8)
          rw [h0, Nat.mul_zero, Nat.zero_add] at q
          rw [e1, q]
        refine kk w9 H9 ls _ hW9 (by rw [e1]; exact Nat.mod_lt _ (kw_M_pos 8)) (by rw [e0, h1]) (fun q q1 q2 => by rw [ho9 q q1 q2]; exact ho q q1 q2) (t_lL (free := (fun q => q = h + 1 ∨ q = h + 2)) hlc hL9) (lv_sub hl [1, 2] rfl)
      · have hO9 := kr_obj hW9 hP.1 hP.2.1
        have hf : w9 (h + 1) + w9 (h + 2) * G = kp_fold G (w (h + 1)) := by
          rw [e1, e2]
          rfl
        refine lv_aload_n hx hb d_Pr_product_69 rfl (lv_at hl 1 rfl) ?_
        refine kq_call (va_runV (As := []) (rest := []) ⟨hx, hb, hml, hown, hts⟩ (c_Pr_fold l E h pa ga gw mm G w9 H9 hE hP hW9 (by rw [hf]; exact kp_fold_lt hok hVl)) (cwV 0 hts (kt_inV kt_w219 kt_w216 kt_w218 kt_s4 kt_w3) rfl rfl rfl (by decide +kernel) ⟨Nat.le_trans (Nat.le_of_ble_eq_true rfl) hRf, Nat.le_trans (Nat.le_of_ble_eq_true rfl) hRl⟩) (kq_preV (kr_st E) (hB) (kq_recv hB.1 hO9 rfl)) rfl rfl hl.1 rfl (lv_room (Nat.le_of_ble_eq_true rfl)) d_Pr_product_70 ⟨Nat.zero_le _, Nat.zero_le _⟩) (fun v8 H8 L8 hq8 hL8 => ?_)
        obtain ⟨rfl, hW8⟩ := hq8
        refine W.eq (g2 := F0 m 73 ls []) rfl ?_
        refine lv_iinc (k := 0) (v := nI (i + 1)) hx hb d_Pr_product_73 hl rfl (kq_inc i) (by decide) rfl (fun ls hl => ?_)
        have hl : lv_has ls 5 [(4, .int (nI (i + 1))), (0, .ref h), (1, .ref r)] := hl
        refine lv_goto hx hb d_Pr_product_76 rfl ?_
        refine ih (i + 1) _ H8 ls _ (by omega) hW8 ?_ ?_ (fun q q1 q2 => by rw [kq_up_ne q1, ho9 q q1 q2]; exact ho q q1 q2) (t_lL (free := (fun q => q = h + 1 ∨ q = h + 2)) (t_lL (free := (fun q => q = h + 1 ∨ q = h + 2)) hlc hL9) (fun q h => Or.inl (hL8 q h))) (lv_sub hl [0, 1, 2] rfl)
        · rw [kq_up_at, hf, kp_fold_eq hok, h1]
        · rw [kq_up_at, hf]
          exact h2
end
set_option maxHeartbeats 4000000 in
set_option maxRecDepth 100000 in
theorem c_Pr_product (l : Launch) (E : kr_E) (h pa ga gw mm G : Nat) (v : Nat → Nat) (H : Heap) (hE : kr_ok E) (hP : kr_P E h pa ga gw mm G) (hW : kr_W E v H) (r a b : Nat) (hr : kr_out E r) (ha : kr_in E a) (hb0 : kr_in E b) : Met l y_Pr_product w_Pr_product ({ frames := 2, cells := 0, slots := 0, locals := 51 }) (kq_P [.ref h, .ref r, .ref a, .ref b] H (kr_B E)) (kq_Q (fun o H1 => o = none ∧ ∃ w : Nat → Nat, kr_W E w H1 ∧ w r = v a * v b % mm ∧ ∀ q, q ≠ r → q ≠ h + 1 → q ≠ h + 2 → w q = v q)) 0 0 (fun q => q = r ∨ q = h + 1 ∨ q = h + 2) := by
  refine Met.ofW (cc := b_Pr_product) (maxL := 5) (ret := none) (by decide) rfl ?_
  intro p e s m args below meth c s₁ B0 hml hv
  obtain ⟨rfl, hH, hB⟩ := hv
  have hx := B0.exec
  have hb := B0.bytes
  have hret := B0.returns
  have hts := atoms_spec (ws := w_Pr_product) B0.pre
  have hown : s.vm.findClass R_Pr = some m.cls := findClass_of_methodNamed B0.named
  have hlocks := B0.notSynchronized
  rw [hH]
  have hl := lv_entry ([.ref h, .ref r, .ref a, .ref b]) (n := 5) (Nat.le_of_ble_eq_true rfl)
  rw [lg_entry_eq]
  generalize (lg_sl ([.ref h, .ref r, .ref a, .ref b]) ++ List.replicate (5 - (lg_sl ([.ref h, .ref r, .ref a, .ref b])).length) Slot.unset).toArray = ls at hl ⊢
  have hl : lv_has ls 5 [(0, .ref h), (1, .ref r), (2, .ref a), (3, .ref b)] := hl
  have hok := hP.2.2.2.2.1
  have hT := kr_T hE hB
  have hK := hB.1
  have hla := kr_lt hE hW ha
  have hlb := kr_lt hE hW hb0
  refine lv_iconst (v := nI 0) hx hb d_Pr_product_0 (by decide) ?_
  refine lv_istore hx hb d_Pr_product_1 hl (by decide) rfl (fun ls hl => ?_)
  have hl : lv_has ls 5 [(4, .int (nI 0)), (0, .ref h), (1, .ref r), (2, .ref a), (3, .ref b)] := hl
  refine la_Pr_product hx hb hts hown hE hP hB (v := v) (fun w1 H1 ls L1 hW1 h1 ho1 hL1 hl => ?_) 16 0 v H ls [] rfl hW (by rw [kw_M_0, Nat.mod_one]) (fun _ _ => rfl) (fun q h => by cases h) (lv_sub hl [0, 1, 2, 3, 4] rfl)
  refine lv_iconst (v := nI 0) hx hb d_Pr_product_24 (by decide) ?_
  refine lv_istore hx hb d_Pr_product_25 hl (by decide) rfl (fun ls hl => ?_)
  have hl : lv_has ls 5 [(4, .int (nI 0)), (0, .ref h), (1, .ref r), (2, .ref a), (3, .ref b)] := hl
  refine lb_Pr_product hx hb hts hown hml (Nat.le_of_ble_eq_true rfl) (Nat.le_of_ble_eq_true rfl) hE hP hB (v := v) ha hb0 hla hlb (fun w2 H2 ls L2 hW2 h2 ho2 hL2 hl => ?_) 8 0 w1 H1 ls L1 rfl hW1 (by rw [h1, kw_M_0, Nat.mod_one, Nat.zero_mul]) ho1 hL1 (lv_sub hl [0, 1, 2, 3, 4] rfl)
  refine lv_iconst (v := nI 0) hx hb d_Pr_product_53 (by decide) ?_
  refine lv_istore hx hb d_Pr_product_54 hl (by decide) rfl (fun ls hl => ?_)
  have hl : lv_has ls 5 [(4, .int (nI 0)), (0, .ref h), (1, .ref r)] := hl
  refine lc_Pr_product hx hb hts hown hml (Nat.le_of_ble_eq_true rfl) (Nat.le_of_ble_eq_true rfl) hE hP hB (V := v a * v b) (v := v) (fun w3 H3 ls L3 hW3 h3 h3m ho3 hL3 hl => ?_) 4 0 w2 H2 ls L2 rfl hW2 (by rw [h2]) (kp_folds4 hok (kr_wide hP hW2).2) (fun q q1 _ => ho2 q q1) (fun q h => Or.inl (hL2 q h)) (lv_sub hl [0, 1, 2] rfl)
  have hO := kr_obj hW3 hP.1 hP.2.1
  have hsw : kq_sL s H3 (h + 1) 8 (w3 (h + 1)) := (kq_r.ofV hT (kr_wide hP hW3).1).fewer (by decide)
  have hrr := kr_row hW3 hr
  refine lv_aload_n hx hb d_Pr_product_79 rfl (lv_at hl 1 rfl) ?_
  refine lv_aload_n hx hb d_Pr_product_80 rfl (lv_at hl 0 rfl) ?_
  refine kq_get hx hb hts kt_F_Pr hown hK hO rfl 4 (by decide) kt_w65 rfl d_Pr_product_81 ?_
  refine kq_call (va_runS (As := [.ref r, .ref (h + 1)]) (rest := []) ⟨hx, hb, hml, hown, hts⟩ (c_Wo_copy l (kr_c E) H3 r (h + 1) (w3 r) (w3 (h + 1)) hrr) (va_cwS 2 hts (kt_inS kt_w222 kt_w220 kt_w221 kt_w6) rfl rfl rfl (by decide +kernel) ⟨Nat.le_of_ble_eq_true rfl, Nat.le_of_ble_eq_true rfl⟩) (kq_preS (kq_st_A.both kq_st_r) (⟨hT, hsw⟩)) rfl rfl hl.1 rfl (lv_room (Nat.le_of_ble_eq_true rfl)) d_Pr_product_84 ⟨Nat.zero_le _, Nat.zero_le _⟩) (fun v9 H9 L9 hq9 hL9 => ?_)
  obtain ⟨rfl, rfl⟩ := hq9
  refine W.eq (g2 := F0 m 87 ls []) rfl ?_
  have hW4 := kr_put hE hW3 hr h3
  refine kr_trimEnd (k0 := 0) (k1 := 1) hx hb hts hown hml hE hP hW4 hB hr (Nat.le_of_ble_eq_true rfl) (Nat.le_of_ble_eq_true rfl) hl rfl rfl d_Pr_product_87 d_Pr_product_88 d_Pr_product_89 (fun H5 L5 hW5 hL5 => ?_)
  have hrne : r ≠ h + 1 := kr_in_ne hE hP (Or.inl hr)
  refine W.vret hx hb hret (fun t ht _ => ⟨_, rfl, rfl, _, by rw [ht]; exact hW5, ?_, fun q q1 q2 q3 => ?_⟩) (t_lL (free := (fun q => q = r ∨ q = h + 1 ∨ q = h + 2)) (t_lL (free := (fun q => q = r ∨ q = h + 1 ∨ q = h + 2)) (fun q h => Or.inr (hL3 q h)) (fun q h => Or.inl (hL9 q h))) (fun q h => Or.inl (hL5 q h))) d_Pr_product_92
  · rw [kq_up_at, kq_up_at, h3m]
  · rw [kq_up_ne q1, kq_up_ne q1]
    exact ho3 q q2 q3
