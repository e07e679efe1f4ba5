/-! KeyCurveModel: add, subtract, multiply, invert, root (own rows). -/
def ks_fr (mo q : Nat) : Prop := mo + 18 ≤ q ∧ q ≤ mo + 31
theorem kx_m_lt (d : Bool) : 0 < kx_m d ∧ kx_m d < kw_M 8 := by
  cases d
  · exact ⟨by decide, kP_M8.1⟩
  · exact ⟨by decide, kN_M8.1⟩
theorem kx_plusm {m A B : Nat} (hm : m < kw_M 8) (hA : A < m) (hB : B < m) : (if (A + B) / kw_M 8 = 1 ∨ m ≤ (A + B) % kw_M 8 then kw_sub ((A + B) % kw_M 8) m else (A + B) % kw_M 8) = (A + B) % m := by
  have e : (A + B) % m = if A + B < m then A + B else A + B - m := by
    split
    · rename_i q
      exact Nat.mod_eq_of_lt q
    · rw [Nat.mod_eq_sub_mod (by omega), Nat.mod_eq_of_lt (by omega)]
  rw [e]
  unfold kw_sub
  rcases Nat.lt_or_ge (A + B) (kw_M 8) with q | q
  · rw [Nat.mod_eq_of_lt q, Nat.div_eq_of_lt q]
    split
    · rw [if_neg (by omega), show A + B + kw_M 8 - m = A + B - m + kw_M 8 by omega, Nat.add_mod_right, Nat.mod_eq_of_lt (by omega)]
    · rw [if_pos (by omega)]
  · have e1 : (A + B) / kw_M 8 = 1 := by
      rw [Nat.div_eq_sub_div (by omega) q, Nat.div_eq_of_lt (by omega)]
    rw [Nat.mod_eq_sub_mod q, Nat.mod_eq_of_lt (show A + B - kw_M 8 < kw_M 8 by omega), if_pos (Or.inl e1), if_neg (by omega), Nat.mod_eq_of_lt (by omega)]
    omega
theorem kx_minusm {m A B : Nat} (hm : m < kw_M 8) (hA : A < m) (hB : B < m) : (if A < B then (kw_sub A B + m) % kw_M 8 else kw_sub A B) = kp_dif m A B := by
  unfold kp_dif
  rw [Nat.mod_eq_of_lt hB]
  split
  · rename_i q
    rw [kx_sub_gt q hB hm, Nat.mod_eq_of_lt (by omega)]
    omega
  · rw [kx_sub_le (by omega) (by omega), show A + (m - B) = A - B + m by omega, Nat.add_mod_right, Nat.mod_eq_of_lt (by omega)]
theorem kx_dif_mod (m A B : Nat) : kp_dif m (A % m) (B % m) = kp_dif m A B := by
  unfold kp_dif
  rw [Nat.mod_mod, Nat.mod_add_mod]
theorem kx_root_mod (x : Nat) : kc_root (x % kP) = kc_root x := by
  unfold kc_root
  rw [Nat.mod_mod]
theorem kx_m_pr (d : Bool) : pm_prime (kx_m d) ∧ kx_m d % 2 = 1 := by
  cases d
  · exact ⟨kP_prime, by decide⟩
  · exact ⟨kN_prime, by decide⟩
theorem d_Mo_add_0_0 : decode b_Mo_add_0 0 = .ok (.iload 4, 2) := by decide +kernel
theorem d_Mo_add_0_2 : decode b_Mo_add_0 2 = .ok (.ifCond .eq 9, 3) := by decide +kernel
theorem d_Mo_add_0_5 : decode b_Mo_add_0 5 = .ok (.getstatic 115, 3) := by decide +kernel
theorem d_Mo_add_0_8 : decode b_Mo_add_0 8 = .ok (.goto 6, 3) := by decide +kernel
theorem d_Mo_add_0_11 : decode b_Mo_add_0 11 = .ok (.getstatic 90, 3) := by decide +kernel
theorem d_Mo_add_0_14 : decode b_Mo_add_0 14 = .ok (.astore 5, 2) := by decide +kernel
theorem d_Mo_add_0_16 : decode b_Mo_add_0 16 = .ok (.aload_n 0, 1) := by decide +kernel
theorem d_Mo_add_0_17 : decode b_Mo_add_0 17 = .ok (.aload_n 0, 1) := by decide +kernel
theorem d_Mo_add_0_18 : decode b_Mo_add_0 18 = .ok (.getfield 58, 3) := by decide +kernel
theorem d_Mo_add_0_21 : decode b_Mo_add_0 21 = .ok (.iload_n 2, 1) := by decide +kernel
theorem d_Mo_add_0_22 : decode b_Mo_add_0 22 = .ok (.iload 4, 2) := by decide +kernel
theorem d_Mo_add_0_24 : decode b_Mo_add_0 24 = .ok (.invokevirtual 138, 3) := by decide +kernel
theorem d_Mo_add_0_27 : decode b_Mo_add_0 27 = .ok (.aload_n 0, 1) := by decide +kernel
theorem d_Mo_add_0_28 : decode b_Mo_add_0 28 = .ok (.aload_n 0, 1) := by decide +kernel
theorem d_Mo_add_0_29 : decode b_Mo_add_0 29 = .ok (.getfield 61, 3) := by decide +kernel
theorem d_Mo_add_0_32 : decode b_Mo_add_0 32 = .ok (.iload_n 3, 1) := by decide +kernel
theorem d_Mo_add_0_33 : decode b_Mo_add_0 33 = .ok (.iload 4, 2) := by decide +kernel
theorem d_Mo_add_0_35 : decode b_Mo_add_0 35 = .ok (.invokevirtual 138, 3) := by decide +kernel
theorem d_Mo_add_0_38 : decode b_Mo_add_0 38 = .ok (.aload_n 0, 1) := by decide +kernel
theorem d_Mo_add_0_39 : decode b_Mo_add_0 39 = .ok (.getfield 58, 3) := by decide +kernel
theorem d_Mo_add_0_42 : decode b_Mo_add_0 42 = .ok (.aload_n 0, 1) := by decide +kernel
theorem d_Mo_add_0_43 : decode b_Mo_add_0 43 = .ok (.getfield 58, 3) := by decide +kernel
theorem d_Mo_add_0_46 : decode b_Mo_add_0 46 = .ok (.aload_n 0, 1) := by decide +kernel
theorem d_Mo_add_0_47 : decode b_Mo_add_0 47 = .ok (.getfield 61, 3) := by decide +kernel
theorem d_Mo_add_0_50 : decode b_Mo_add_0 50 = .ok (.invokestatic 101, 3) := by decide +kernel
theorem d_Mo_add_0_53 : decode b_Mo_add_0 53 = .ok (.iconst 1, 1) := by decide +kernel
theorem d_Mo_add_0_54 : decode b_Mo_add_0 54 = .ok (.if_icmp .eq 15, 3) := by decide +kernel
theorem d_Mo_add_0_57 : decode b_Mo_add_0 57 = .ok (.aload_n 0, 1) := by decide +kernel
theorem d_Mo_add_0_58 : decode b_Mo_add_0 58 = .ok (.getfield 58, 3) := by decide +kernel
theorem d_Mo_add_0_61 : decode b_Mo_add_0 61 = .ok (.aload 5, 2) := by decide +kernel
theorem d_Mo_add_0_63 : decode b_Mo_add_0 63 = .ok (.invokestatic 93, 3) := by decide +kernel
theorem d_Mo_add_0_66 : decode b_Mo_add_0 66 = .ok (.ifCond .lt 17, 3) := by decide +kernel
theorem d_Mo_add_0_69 : decode b_Mo_add_0 69 = .ok (.aload_n 0, 1) := by decide +kernel
theorem d_Mo_add_0_70 : decode b_Mo_add_0 70 = .ok (.getfield 58, 3) := by decide +kernel
theorem d_Mo_add_0_73 : decode b_Mo_add_0 73 = .ok (.aload_n 0, 1) := by decide +kernel
theorem d_Mo_add_0_74 : decode b_Mo_add_0 74 = .ok (.getfield 58, 3) := by decide +kernel
theorem d_Mo_add_0_77 : decode b_Mo_add_0 77 = .ok (.aload 5, 2) := by decide +kernel
theorem d_Mo_add_0_79 : decode b_Mo_add_0 79 = .ok (.invokestatic 97, 3) := by decide +kernel
theorem d_Mo_add_0_82 : decode b_Mo_add_0 82 = .ok (.pop, 1) := by decide +kernel
theorem d_Mo_add_0_83 : decode b_Mo_add_0 83 = .ok (.aload_n 0, 1) := by decide +kernel
theorem d_Mo_add_0_84 : decode b_Mo_add_0 84 = .ok (.getfield 9, 3) := by decide +kernel
theorem d_Mo_add_0_87 : decode b_Mo_add_0 87 = .ok (.iload_n 1, 1) := by decide +kernel
theorem d_Mo_add_0_88 : decode b_Mo_add_0 88 = .ok (.iconst 3, 1) := by decide +kernel
theorem d_Mo_add_0_89 : decode b_Mo_add_0 89 = .ok (.iand, 1) := by decide +kernel
theorem d_Mo_add_0_90 : decode b_Mo_add_0 90 = .ok (.aaload, 1) := by decide +kernel
theorem d_Mo_add_0_91 : decode b_Mo_add_0 91 = .ok (.aload_n 0, 1) := by decide +kernel
theorem d_Mo_add_0_92 : decode b_Mo_add_0 92 = .ok (.getfield 58, 3) := by decide +kernel
theorem d_Mo_add_0_95 : decode b_Mo_add_0 95 = .ok (.invokestatic 104, 3) := by decide +kernel
theorem d_Mo_add_0_98 : decode b_Mo_add_0 98 = .ok (.return_, 1) := by decide +kernel
set_option maxHeartbeats 4000000 in
set_option maxRecDepth 100000 in
theorem c_Mo_add_0 (l : Launch) (E : ks_E) (A : Nat → Nat) (mo : Nat) (far : Bool) (v : Nat → Nat) (H : Heap) (hE : ks_ok E) (hA : ks_A E A) (hO : ks_O E mo far) (hG : ks_G E mo) (hW : ks_W E v H) (r a b : Int32) (d : Bool) : Met l y_Mo_add_0 w_Mo_add_0 ({ frames := 4, cells := 0, slots := 0, locals := 92 }) (kq_P [.ref mo, .int r, .int a, .int b, .int (kq_z d)] H (ks_K E A mo)) (kq_Q (fun o1 H1 => o1 = none ∧ ∃ w : Nat → Nat, ks_W E w H1 ∧ w (mo + 2 + kx3 r) = (v (mo + 2 + kx3 a) + v (mo + 2 + kx3 b)) % kx_m d ∧ ∀ q, q ≠ mo + 2 + kx3 r → ¬ ks_fr mo q → w q = v q)) 0 0 (fun q => q = mo + 2 + kx3 r ∨ ks_fr mo q) := by
  refine Met.ofW (cc := b_Mo_add_0) (maxL := 6) (ret := none) (by decide) rfl ?_
  intro p e s m args below meth c s₁ B0 hml hv
  obtain ⟨rfl, hH, hKK⟩ := hv
  have hx := B0.exec
  have hb := B0.bytes
  have hret := B0.returns
  have hts := atoms_spec (ws := w_Mo_add_0) B0.pre
  have hown : s.vm.findClass R_Mo = some m.cls := findClass_of_methodNamed B0.named
  have hlocks := B0.notSynchronized
  rw [hH]
  have hl := lv_entry ([.ref mo, .int r, .int a, .int b, .int (kq_z d)]) (n := 6) (Nat.le_of_ble_eq_true rfl)
  rw [lg_entry_eq]
  generalize (lg_sl ([.ref mo, .int r, .int a, .int b, .int (kq_z d)]) ++ List.replicate (6 - (lg_sl ([.ref mo, .int r, .int a, .int b, .int (kq_z d)])).length) Slot.unset).toArray = ls at hl ⊢
  have hl : lv_has ls 6 [(0, .ref mo), (1, .int r), (2, .int a), (3, .int b), (4, .int (kq_z d))] := hl
  have hC := hKK.1
  have hB := hC.1
  have hK := hB.1
  have hT := ks_T hE hB
  have hOo := ks_obj hW hO.1 hO.2.1
  have hlc0 : ∀ q ∈ ([] : List Loc), q.base = mo + 2 + kx3 r ∨ ks_fr mo q.base := fun q h => by cases h
  have ka := kx3_lt a
  have kb := kx3_lt b
  have kr := kx3_lt r
  obtain ⟨hm0, hm8⟩ := kx_m_lt d
  refine lv_iload hx hb d_Mo_add_0_0 (lv_at hl 4 rfl) ?_
  refine lv_if_eq hx hb d_Mo_add_0_2 rfl (fun hc0 => ?_) (fun hc0 => ?_)
  · have hd := kq_z_b0 hc0
    subst hd
    refine kq_gets hx hb hts (ks_zat hW hC.2.1) hown kt_w453 d_Mo_add_0_11 ?_
    refine lv_astore hx hb d_Mo_add_0_14 hl (by decide) rfl (fun ls hl => ?_)
    have hl : lv_has ls 6 [(5, .ref (A 0)), (0, .ref mo), (1, .int r), (2, .int a), (3, .int b), (4, .int (kq_z false))] := hl
    refine lv_aload_n hx hb d_Mo_add_0_16 rfl (lv_at hl 1 rfl) ?_
    refine lv_aload_n hx hb d_Mo_add_0_17 rfl (lv_at hl 1 rfl) ?_
    refine kq_get hx hb hts kt_F_Mo hown hK hOo rfl 15 (by decide) kt_w391 rfl d_Mo_add_0_18 ?_
    refine lv_iload_n hx hb d_Mo_add_0_21 rfl (lv_at hl 3 rfl) ?_
    refine lv_iload hx hb d_Mo_add_0_22 (lv_at hl 5 rfl) ?_
    refine kq_call (va_runV (As := [.ref (mo + 28), .int a, .int (kq_z false)]) (rest := []) ⟨hx, hb, hml, hown, hts⟩ (c_Mo_below l E A mo far v H hE hA hO hG hW (mo + 28) (hO.2.2.1 28 (by decide) (by decide) (by decide)) a false) (cwV 3 hts (kt_inV kt_w458 kt_w455 kt_w457 kt_s10 kt_w5) rfl rfl rfl (by decide +kernel) ⟨Nat.le_of_ble_eq_true rfl, Nat.le_of_ble_eq_true rfl⟩) (kq_preV ((ks_K_st E A mo)) (hKK) (kq_recv hK hOo rfl)) rfl rfl hl.1 rfl (lv_room (Nat.le_of_ble_eq_true rfl)) d_Mo_add_0_24 ⟨Nat.zero_le _, Nat.zero_le _⟩) (fun v9 H1 L1 hq1 hL1 => ?_)
    obtain ⟨rfl, hX1⟩ := hq1
    refine W.eq (g2 := F0 m 27 ls []) rfl ?_
    obtain ⟨w1, f1, o1, hW1⟩ : ∃ w : Nat → Nat, w (mo + 28) = v (mo + 2 + kx3 a) % kx_m false ∧ (∀ q, q ≠ mo + 28 → w q = v q) ∧ ks_W E w H1 := ⟨_, kq_up_at, fun q hq => kq_up_ne hq, hX1⟩
    have hO1 := ks_obj hW1 hO.1 hO.2.1
    have hlc1 := t_lL (free := (fun q => q = mo + 2 + kx3 r ∨ ks_fr mo q)) hlc0 (fun q z => Or.inr (by rw [hL1 q z]; unfold ks_fr; omega))
    refine lv_aload_n hx hb d_Mo_add_0_27 rfl (lv_at hl 1 rfl) ?_
    refine lv_aload_n hx hb d_Mo_add_0_28 rfl (lv_at hl 1 rfl) ?_
    refine kq_get hx hb hts kt_F_Mo hown hK hO1 rfl 16 (by decide) kt_w392 rfl d_Mo_add_0_29 ?_
    refine lv_iload_n hx hb d_Mo_add_0_32 rfl (lv_at hl 4 rfl) ?_
    refine lv_iload hx hb d_Mo_add_0_33 (lv_at hl 5 rfl) ?_
    refine kq_call (va_runV (As := [.ref (mo + 29), .int b, .int (kq_z false)]) (rest := []) ⟨hx, hb, hml, hown, hts⟩ (c_Mo_below l E A mo far w1 H1 hE hA hO hG hW1 (mo + 29) (hO.2.2.1 29 (by decide) (by decide) (by decide)) b false) (cwV 3 hts (kt_inV kt_w458 kt_w455 kt_w457 kt_s10 kt_w5) rfl rfl rfl (by decide +kernel) ⟨Nat.le_of_ble_eq_true rfl, Nat.le_of_ble_eq_true rfl⟩) (kq_preV ((ks_K_st E A mo)) (hKK) (kq_recv hK hO1 rfl)) rfl rfl hl.1 rfl (lv_room (Nat.le_of_ble_eq_true rfl)) d_Mo_add_0_35 ⟨Nat.zero_le _, Nat.zero_le _⟩) (fun v9 H2 L2 hq2 hL2 => ?_)
    obtain ⟨rfl, hX2⟩ := hq2
    refine W.eq (g2 := F0 m 38 ls []) rfl ?_
    obtain ⟨w2, f2, o2, hW2⟩ : ∃ w : Nat → Nat, w (mo + 29) = w1 (mo + 2 + kx3 b) % kx_m false ∧ (∀ q, q ≠ mo + 29 → w q = w1 q) ∧ ks_W E w H2 := ⟨_, kq_up_at, fun q hq => kq_up_ne hq, hX2⟩
    have hO2 := ks_obj hW2 hO.1 hO.2.1
    have hlc2 := t_lL (free := (fun q => q = mo + 2 + kx3 r ∨ ks_fr mo q)) hlc1 (fun q z => Or.inr (by rw [hL2 q z]; unfold ks_fr; omega))
    have e28 : w2 (mo + 28) = v (mo + 2 + kx3 a) % kx_m false := by rw [o2 (mo + 28) (by omega), f1]
    have e29 : w2 (mo + 29) = v (mo + 2 + kx3 b) % kx_m false := by rw [f2, o1 (mo + 2 + kx3 b) (by omega)]
    have l28 : w2 (mo + 28) < kx_m false := by rw [e28]; exact Nat.mod_lt _ hm0
    have l29 : w2 (mo + 29) < kx_m false := by rw [e29]; exact Nat.mod_lt _ hm0
    have k2 : ∀ q, ¬ ks_fr mo q → w2 q = v q := fun q hq => by rw [o2 q (by unfold ks_fr at hq; omega), o1 q (by unfold ks_fr at hq; omega)]
    have h28 := hO.2.2.1 28 (by decide) (by decide) (by decide)
    have h29 := hO.2.2.1 29 (by decide) (by decide) (by decide)
    have s28 := ks_src hE hW2 hB (Or.inl h28)
    have s29 := ks_src hE hW2 hB (Or.inl h29)
    have r28 := ks_row hW2 h28
    have b28 := ks_lt hE hW2 (Or.inl h28)
    have b29 := ks_lt hE hW2 (Or.inl h29)
    have hm := ks_Am hA false
    refine lv_aload_n hx hb d_Mo_add_0_38 rfl (lv_at hl 1 rfl) ?_
    refine kq_get hx hb hts kt_F_Mo hown hK hO2 rfl 15 (by decide) kt_w391 rfl d_Mo_add_0_39 ?_
    refine lv_aload_n hx hb d_Mo_add_0_42 rfl (lv_at hl 1 rfl) ?_
    refine kq_get hx hb hts kt_F_Mo hown hK hO2 rfl 15 (by decide) kt_w391 rfl d_Mo_add_0_43 ?_
    refine lv_aload_n hx hb d_Mo_add_0_46 rfl (lv_at hl 1 rfl) ?_
    refine kq_get hx hb hts kt_F_Mo hown hK hO2 rfl 16 (by decide) kt_w392 rfl d_Mo_add_0_47 ?_
    refine kq_call (va_runS (As := [.ref (mo + 28), .ref (mo + 28), .ref (mo + 29)]) (rest := []) ⟨hx, hb, hml, hown, hts⟩ (c_Mo_add_1 l H2 (ks_c E) (mo + 28) (mo + 28) (mo + 29) (w2 (mo + 28)) (w2 (mo + 28)) (w2 (mo + 29)) b28 b28 b29 r28) (va_cwS 3 hts (kt_inS kt_w479 kt_w477 kt_w478 kt_w5) rfl rfl rfl (by decide +kernel) ⟨Nat.le_of_ble_eq_true rfl, Nat.le_of_ble_eq_true rfl⟩) (kq_preS (kq_st_A.both (kq_st_r.both kq_st_r)) (⟨hT, s28, s29⟩)) rfl rfl hl.1 rfl (lv_room (Nat.le_of_ble_eq_true rfl)) d_Mo_add_0_50 ⟨Nat.zero_le _, Nat.zero_le _⟩) (fun v9 H9 L3 hq9 hL3 => ?_)
    obtain ⟨rfl, rfl⟩ := hq9
    refine W.eq (g2 := F0 m 53 ls [.int (nI ((w2 (mo + 28) + w2 (mo + 29)) / kw_M 8))]) rfl ?_
    have key := kx_plusm hm8 l28 l29
    rw [e28, e29, ← Nat.add_mod] at key
    rw [← e28, ← e29] at key
    have hX8 : (w2 (mo + 28) + w2 (mo + 29)) % kw_M 8 < kw_M 8 := Nat.mod_lt _ (kw_M_pos 8)
    have hc2 : (w2 (mo + 28) + w2 (mo + 29)) / kw_M 8 < 2 := Nat.div_lt_of_lt_mul (by omega)
    have hW3 := ks_put hE hW2 h28 hX8
    have hO3 := ks_obj hW3 hO.1 hO.2.1
    have s3 := ks_src hE hW3 hB (Or.inl h28)
    have r3 := ks_row hW3 h28
    have sm := ks_src hE hW3 hB (Or.inr hm.1)
    have lm := ks_lt hE hW3 (Or.inr hm.1)
    rw [ks_cst hW3 hm] at sm lm
    rw [kq_up_at] at s3 r3
    have hlc3 := t_lL (free := (fun q => q = mo + 2 + kx3 r ∨ ks_fr mo q)) hlc2 (fun q z => Or.inr (by rw [hL3 q z]; unfold ks_fr; omega))
    refine lv_iconst (v := nI 1) hx hb d_Mo_add_0_53 (by decide) ?_
    refine lv_icmp_eq hx hb d_Mo_add_0_54 rfl (fun hc1 => ?_) (fun hc1 => ?_)
    · have h1 := (kx_n1 (by omega)).mp hc1
      rw [if_pos (Or.inl h1)] at key
      refine lv_aload_n hx hb d_Mo_add_0_69 rfl (lv_at hl 1 rfl) ?_
      refine kq_get hx hb hts kt_F_Mo hown hK hO3 rfl 15 (by decide) kt_w391 rfl d_Mo_add_0_70 ?_
      refine lv_aload_n hx hb d_Mo_add_0_73 rfl (lv_at hl 1 rfl) ?_
      refine kq_get hx hb hts kt_F_Mo hown hK hO3 rfl 15 (by decide) kt_w391 rfl d_Mo_add_0_74 ?_
      refine lv_aload hx hb d_Mo_add_0_77 (lv_at hl 0 rfl) ?_
      refine kq_call (va_runS (As := [.ref (mo + 28), .ref (mo + 28), .ref (A 0)]) (rest := []) ⟨hx, hb, hml, hown, hts⟩ (c_Mo_sub l _ (ks_c E) (mo + 28) (mo + 28) (A 0) ((w2 (mo + 28) + w2 (mo + 29)) % kw_M 8) ((w2 (mo + 28) + w2 (mo + 29)) % kw_M 8) (kx_m false) hX8 hX8 lm r3) (va_cwS 3 hts (kt_inS kt_w475 kt_w473 kt_w474 kt_w5) rfl rfl rfl (by decide +kernel) ⟨Nat.le_of_ble_eq_true rfl, Nat.le_of_ble_eq_true rfl⟩) (kq_preS (kq_st_A.both (kq_st_r.both kq_st_r)) (⟨hT, s3, sm⟩)) rfl rfl hl.1 rfl (lv_room (Nat.le_of_ble_eq_true rfl)) d_Mo_add_0_79 ⟨Nat.zero_le _, Nat.zero_le _⟩) (fun v9 H9 L4 hq9 hL4 => ?_)
      obtain ⟨rfl, rfl⟩ := hq9
      refine W.eq (g2 := F0 m 82 ls [.int (nI (18446744073709551616 - (if (w2 (mo + 28) + w2 (mo + 29)) % kw_M 8 < kx_m false then 1 else 0)))]) rfl ?_
      refine kq_rH (kq_set_set _ _ _ _) ?_
      have hlc4 := t_lL (free := (fun q => q = mo + 2 + kx3 r ∨ ks_fr mo q)) hlc3 (fun q z => Or.inr (by rw [hL4 q z]; unfold ks_fr; omega))
      have hW4 := ks_put hE hW2 h28 (kw_sub_lt ((w2 (mo + 28) + w2 (mo + 29)) % kw_M 8) (kx_m false))
      have hO4 := ks_obj hW4 hO.1 hO.2.1
      refine lv_pop hx hb d_Mo_add_0_82 rfl ?_
      have hro := (hG.1 (kx3 r) (kx3_lt r)).1
      have hsf := ks_src hE hW4 hB (Or.inl (hO.2.2.1 28 (by decide) (by decide) (by decide)))
      have hlf := ks_lt hE hW4 (Or.inl (hO.2.2.1 28 (by decide) (by decide) (by decide)))
      have haf := hKK.2.1.other (hW4.2.2.1 (mo + 1) hG.2.1)
      refine lv_aload_n hx hb d_Mo_add_0_83 rfl (lv_at hl 1 rfl) ?_
      refine kq_get hx hb hts kt_F_Mo hown hK hO4 rfl 0 (by decide) kt_w376 rfl d_Mo_add_0_84 ?_
      refine lv_iload_n hx hb d_Mo_add_0_87 rfl (lv_at hl 2 rfl) ?_
      refine lv_iconst (v := nI 3) hx hb d_Mo_add_0_88 (by decide) ?_
      refine lv_iand hx hb d_Mo_add_0_89 ?_
      refine kq_ri (show r &&& (nI 3) = nI (kx3 r) from kx_and3 r) ?_
      refine kq_aald hx hb (haf) rfl (kx3_lt r) (by decide) (rfl) d_Mo_add_0_90 ?_
      refine lv_aload_n hx hb d_Mo_add_0_91 rfl (lv_at hl 1 rfl) ?_
      refine kq_get hx hb hts kt_F_Mo hown hK hO4 rfl 15 (by decide) kt_w391 rfl d_Mo_add_0_92 ?_
      refine kq_call (va_runS (As := [.ref (mo + 2 + kx3 r), .ref (mo + 28)]) (rest := []) ⟨hx, hb, hml, hown, hts⟩ (c_Mo_copy l _ (ks_c E) (mo + 2 + kx3 r) (mo + 28) _ _ (ks_row hW4 hro)) (va_cwS 2 hts (kt_inS kt_w461 kt_w459 kt_w460 kt_w5) rfl rfl rfl (by decide +kernel) ⟨Nat.le_of_ble_eq_true rfl, Nat.le_of_ble_eq_true rfl⟩) (kq_preS (kq_st_A.both kq_st_r) (⟨hT, hsf⟩)) rfl rfl hl.1 rfl (lv_room (Nat.le_of_ble_eq_true rfl)) d_Mo_add_0_95 ⟨Nat.zero_le _, Nat.zero_le _⟩) (fun v9 H9 L5 hq9 hL5 => ?_)
      obtain ⟨rfl, rfl⟩ := hq9
      refine W.eq (g2 := F0 m 98 ls []) rfl ?_
      have hlc5 := t_lL (free := (fun q => q = mo + 2 + kx3 r ∨ ks_fr mo q)) hlc4 (fun q z => Or.inl (hL5 q z))
      refine W.vret hx hb hret (fun t ht _ => ⟨_, rfl, rfl, _, by rw [ht]; exact ks_put hE hW4 hro hlf, ?_, fun q q0 q1 => ?_⟩) hlc5 d_Mo_add_0_98
      · rw [kq_up_at]
        rw [kq_up_at]
        exact key
      · rw [kq_up_ne q0]
        rw [kq_up_ne (by unfold ks_fr at q1; omega)]
        exact k2 q q1
    · have h1 : ¬ (w2 (mo + 28) + w2 (mo + 29)) / kw_M 8 = 1 := fun z => hc1 ((kx_n1 (by omega)).mpr z)
      refine lv_aload_n hx hb d_Mo_add_0_57 rfl (lv_at hl 1 rfl) ?_
      refine kq_get hx hb hts kt_F_Mo hown hK hO3 rfl 15 (by decide) kt_w391 rfl d_Mo_add_0_58 ?_
      refine lv_aload hx hb d_Mo_add_0_61 (lv_at hl 0 rfl) ?_
      refine kq_call (va_runS (As := [.ref (mo + 28), .ref (A 0)]) (rest := []) ⟨hx, hb, hml, hown, hts⟩ (c_Mo_compare l _ (mo + 28) (A 0) ((w2 (mo + 28) + w2 (mo + 29)) % kw_M 8) (kx_m false) hX8 lm) (va_cwS 2 hts (kt_inS kt_w465 kt_w463 kt_w464 kt_w5) rfl rfl rfl (by decide +kernel) ⟨Nat.le_of_ble_eq_true rfl, Nat.le_of_ble_eq_true rfl⟩) (kq_preS (kq_st_r.both kq_st_r) (⟨s3, sm⟩)) rfl rfl hl.1 rfl (lv_room (Nat.le_of_ble_eq_true rfl)) d_Mo_add_0_63 ⟨Nat.zero_le _, Nat.zero_le _⟩) (fun v9 H9 L4 hq9 hL4 => ?_)
      obtain ⟨rfl, e9⟩ := hq9
      rw [e9]
      clear e9
      refine W.eq (g2 := F0 m 66 ls [.int (kx_cmp ((w2 (mo + 28) + w2 (mo + 29)) % kw_M 8) (kx_m false))]) rfl ?_
      have hlc4 := t_lL (free := (fun q => q = mo + 2 + kx3 r ∨ ks_fr mo q)) hlc3 (fun q z => (hL4 q z).elim)
      refine lv_if_lt hx hb d_Mo_add_0_66 rfl (fun hcm => ?_) (fun hcm => ?_)
      · have h2 := kx_cmp_lt.mp hcm
        rw [if_neg (fun z => z.elim h1 (fun y => by omega))] at key
        have hro := (hG.1 (kx3 r) (kx3_lt r)).1
        have hsf := ks_src hE hW3 hB (Or.inl (hO.2.2.1 28 (by decide) (by decide) (by decide)))
        have hlf := ks_lt hE hW3 (Or.inl (hO.2.2.1 28 (by decide) (by decide) (by decide)))
        have haf := hKK.2.1.other (hW3.2.2.1 (mo + 1) hG.2.1)
        refine lv_aload_n hx hb d_Mo_add_0_83 rfl (lv_at hl 1 rfl) ?_
        refine kq_get hx hb hts kt_F_Mo hown hK hO3 rfl 0 (by decide) kt_w376 rfl d_Mo_add_0_84 ?_
        refine lv_iload_n hx hb d_Mo_add_0_87 rfl (lv_at hl 2 rfl) ?_
        refine lv_iconst (v := nI 3) hx hb d_Mo_add_0_88 (by decide) ?_
        refine lv_iand hx hb d_Mo_add_0_89 ?_
        refine kq_ri (show r &&& (nI 3) = nI (kx3 r) from kx_and3 r) ?_
        refine kq_aald hx hb (haf) rfl (kx3_lt r) (by decide) (rfl) d_Mo_add_0_90 ?_
        refine lv_aload_n hx hb d_Mo_add_0_91 rfl (lv_at hl 1 rfl) ?_
        refine kq_get hx hb hts kt_F_Mo hown hK hO3 rfl 15 (by decide) kt_w391 rfl d_Mo_add_0_92 ?_
        refine kq_call (va_runS (As := [.ref (mo + 2 + kx3 r), .ref (mo + 28)]) (rest := []) ⟨hx, hb, hml, hown, hts⟩ (c_Mo_copy l _ (ks_c E) (mo + 2 + kx3 r) (mo + 28) _ _ (ks_row hW3 hro)) (va_cwS 2 hts (kt_inS kt_w461 kt_w459 kt_w460 kt_w5) rfl rfl rfl (by decide +kernel) ⟨Nat.le_of_ble_eq_true rfl, Nat.le_of_ble_eq_true rfl⟩) (kq_preS (kq_st_A.both kq_st_r) (⟨hT, hsf⟩)) rfl rfl hl.1 rfl (lv_room (Nat.le_of_ble_eq_true rfl)) d_Mo_add_0_95 ⟨Nat.zero_le _, Nat.zero_le _⟩) (fun v9 H9 L5 hq9 hL5 => ?_)
        obtain ⟨rfl, rfl⟩ := hq9
        refine W.eq (g2 := F0 m 98 ls []) rfl ?_
        have hlc5 := t_lL (free := (fun q => q = mo + 2 + kx3 r ∨ ks_fr mo q)) hlc4 (fun q z => Or.inl (hL5 q z))
        refine W.vret hx hb hret (fun t ht _ => ⟨_, rfl, rfl, _, by rw [ht]; exact ks_put hE hW3 hro hlf, ?_, fun q q0 q1 => ?_⟩) hlc5 d_Mo_add_0_98
        · rw [kq_up_at]
          rw [kq_up_at]
          exact key
        · rw [kq_up_ne q0]
          rw [kq_up_ne (by unfold ks_fr at q1; omega)]
          exact k2 q q1
      · have h2 : kx_m false ≤ (w2 (mo + 28) + w2 (mo + 29)) % kw_M 8 := Nat.not_lt.mp (fun z => hcm (kx_cmp_lt.mpr z))
        rw [if_pos (Or.inr h2)] at key
        refine lv_aload_n hx hb d_Mo_add_0_69 rfl (lv_at hl 1 rfl) ?_
        refine kq_get hx hb hts kt_F_Mo hown hK hO3 rfl 15 (by decide) kt_w391 rfl d_Mo_add_0_70 ?_
        refine lv_aload_n hx hb d_Mo_add_0_73 rfl (lv_at hl 1 rfl) ?_
        refine kq_get hx hb hts kt_F_Mo hown hK hO3 rfl 15 (by decide) kt_w391 rfl d_Mo_add_0_74 ?_
        refine lv_aload hx hb d_Mo_add_0_77 (lv_at hl 0 rfl) ?_
        refine kq_call (va_runS (As := [.ref (mo + 28), .ref (mo + 28), .ref (A 0)]) (rest := []) ⟨hx, hb, hml, hown, hts⟩ (c_Mo_sub l _ (ks_c E) (mo + 28) (mo + 28) (A 0) ((w2 (mo + 28) + w2 (mo + 29)) % kw_M 8) ((w2 (mo + 28) + w2 (mo + 29)) % kw_M 8) (kx_m false) hX8 hX8 lm r3) (va_cwS 3 hts (kt_inS kt_w475 kt_w473 kt_w474 kt_w5) rfl rfl rfl (by decide +kernel) ⟨Nat.le_of_ble_eq_true rfl, Nat.le_of_ble_eq_true rfl⟩) (kq_preS (kq_st_A.both (kq_st_r.both kq_st_r)) (⟨hT, s3, sm⟩)) rfl rfl hl.1 rfl (lv_room (Nat.le_of_ble_eq_true rfl)) d_Mo_add_0_79 ⟨Nat.zero_le _, Nat.zero_le _⟩) (fun v9 H9 L5 hq9 hL5 => ?_)
        obtain ⟨rfl, rfl⟩ := hq9
        refine W.eq (g2 := F0 m 82 ls [.int (nI (18446744073709551616 - (if (w2 (mo + 28) + w2 (mo + 29)) % kw_M 8 < kx_m false then 1 else 0)))]) rfl ?_
        refine kq_rH (kq_set_set _ _ _ _) ?_
        have hlc5 := t_lL (free := (fun q => q = mo + 2 + kx3 r ∨ ks_fr mo q)) hlc4 (fun q z => Or.inr (by rw [hL5 q z]; unfold ks_fr; omega))
        have hW4 := ks_put hE hW2 h28 (kw_sub_lt ((w2 (mo + 28) + w2 (mo + 29)) % kw_M 8) (kx_m false))
        have hO4 := ks_obj hW4 hO.1 hO.2.1
        refine lv_pop hx hb d_Mo_add_0_82 rfl ?_
        have hro := (hG.1 (kx3 r) (kx3_lt r)).1
        have hsf := ks_src hE hW4 hB (Or.inl (hO.2.2.1 28 (by decide) (by decide) (by decide)))
        have hlf := ks_lt hE hW4 (Or.inl (hO.2.2.1 28 (by decide) (by decide) (by decide)))
        have haf := hKK.2.1.other (hW4.2.2.1 (mo + 1) hG.2.1)
        refine lv_aload_n hx hb d_Mo_add_0_83 rfl (lv_at hl 1 rfl) ?_
        refine kq_get hx hb hts kt_F_Mo hown hK hO4 rfl 0 (by decide) kt_w376 rfl d_Mo_add_0_84 ?_
        refine lv_iload_n hx hb d_Mo_add_0_87 rfl (lv_at hl 2 rfl) ?_
        refine lv_iconst (v := nI 3) hx hb d_Mo_add_0_88 (by decide) ?_
        refine lv_iand hx hb d_Mo_add_0_89 ?_
        refine kq_ri (show r &&& (nI 3) = nI (kx3 r) from kx_and3 r) ?_
        refine kq_aald hx hb (haf) rfl (kx3_lt r) (by decide) (rfl) d_Mo_add_0_90 ?_
        refine lv_aload_n hx hb d_Mo_add_0_91 rfl (lv_at hl 1 rfl) ?_
        refine kq_get hx hb hts kt_F_Mo hown hK hO4 rfl 15 (by decide) kt_w391 rfl d_Mo_add_0_92 ?_
        refine kq_call (va_runS (As := [.ref (mo + 2 + kx3 r), .ref (mo + 28)]) (rest := []) ⟨hx, hb, hml, hown, hts⟩ (c_Mo_copy l _ (ks_c E) (mo + 2 + kx3 r) (mo + 28) _ _ (ks_row hW4 hro)) (va_cwS 2 hts (kt_inS kt_w461 kt_w459 kt_w460 kt_w5) rfl rfl rfl (by decide +kernel) ⟨Nat.le_of_ble_eq_true rfl, Nat.le_of_ble_eq_true rfl⟩) (kq_preS (kq_st_A.both kq_st_r) (⟨hT, hsf⟩)) rfl rfl hl.1 rfl (lv_room (Nat.le_of_ble_eq_true rfl)) d_Mo_add_0_95 ⟨Nat.zero_le _, Nat.zero_le _⟩) (fun v9 H9 L6 hq9 hL6 => ?_)
        obtain ⟨rfl, rfl⟩ := hq9
        refine W.eq (g2 := F0 m 98 ls []) rfl ?_
        have hlc6 := t_lL (free := (fun q => q = mo + 2 + kx3 r ∨ ks_fr mo q)) hlc5 (fun q z => Or.inl (hL6 q z))
        refine W.vret hx hb hret (fun t ht _ => ⟨_, rfl, rfl, _, by rw [ht]; exact ks_put hE hW4 hro hlf, ?_, fun q q0 q1 => ?_⟩) hlc6 d_Mo_add_0_98
        · rw [kq_up_at]
          rw [kq_up_at]
          exact key
        · rw [kq_up_ne q0]
          rw [kq_up_ne (by unfold ks_fr at q1; omega)]
          exact k2 q q1
  · have hd := kq_z_b1 hc0
    subst hd
    refine kq_gets hx hb hts (ks_zat hW hC.2.2.1) hown kt_w451 d_Mo_add_0_5 ?_
    refine lv_goto hx hb d_Mo_add_0_8 rfl ?_
    refine lv_astore hx hb d_Mo_add_0_14 hl (by decide) rfl (fun ls hl => ?_)
    have hl : lv_has ls 6 [(5, .ref (A 1)), (0, .ref mo), (1, .int r), (2, .int a), (3, .int b), (4, .int (kq_z true))] := hl
    refine lv_aload_n hx hb d_Mo_add_0_16 rfl (lv_at hl 1 rfl) ?_
    refine lv_aload_n hx hb d_Mo_add_0_17 rfl (lv_at hl 1 rfl) ?_
    refine kq_get hx hb hts kt_F_Mo hown hK hOo rfl 15 (by decide) kt_w391 rfl d_Mo_add_0_18 ?_
    refine lv_iload_n hx hb d_Mo_add_0_21 rfl (lv_at hl 3 rfl) ?_
    refine lv_iload hx hb d_Mo_add_0_22 (lv_at hl 5 rfl) ?_
    refine kq_call (va_runV (As := [.ref (mo + 28), .int a, .int (kq_z true)]) (rest := []) ⟨hx, hb, hml, hown, hts⟩ (c_Mo_below l E A mo far v H hE hA hO hG hW (mo + 28) (hO.2.2.1 28 (by decide) (by decide) (by decide)) a true) (cwV 3 hts (kt_inV kt_w458 kt_w455 kt_w457 kt_s10 kt_w5) rfl rfl rfl (by decide +kernel) ⟨Nat.le_of_ble_eq_true rfl, Nat.le_of_ble_eq_true rfl⟩) (kq_preV ((ks_K_st E A mo)) (hKK) (kq_recv hK hOo rfl)) rfl rfl hl.1 rfl (lv_room (Nat.le_of_ble_eq_true rfl)) d_Mo_add_0_24 ⟨Nat.zero_le _, Nat.zero_le _⟩) (fun v9 H1 L1 hq1 hL1 => ?_)
    obtain ⟨rfl, hX1⟩ := hq1
    refine W.eq (g2 := F0 m 27 ls []) rfl ?_
    obtain ⟨w1, f1, o1, hW1⟩ : ∃ w : Nat → Nat, w (mo + 28) = v (mo + 2 + kx3 a) % kx_m true ∧ (∀ q, q ≠ mo + 28 → w q = v q) ∧ ks_W E w H1 := ⟨_, kq_up_at, fun q hq => kq_up_ne hq, hX1⟩
    have hO1 := ks_obj hW1 hO.1 hO.2.1
    have hlc1 := t_lL (free := (fun q => q = mo + 2 + kx3 r ∨ ks_fr mo q)) hlc0 (fun q z => Or.inr (by rw [hL1 q z]; unfold ks_fr; omega))
    refine lv_aload_n hx hb d_Mo_add_0_27 rfl (lv_at hl 1 rfl) ?_
    refine lv_aload_n hx hb d_Mo_add_0_28 rfl (lv_at hl 1 rfl) ?_
    refine kq_get hx hb hts kt_F_Mo hown hK hO1 rfl 16 (by decide) kt_w392 rfl d_Mo_add_0_29 ?_
    refine lv_iload_n hx hb d_Mo_add_0_32 rfl (lv_at hl 4 rfl) ?_
    refine lv_iload hx hb d_Mo_add_0_33 (lv_at hl 5 rfl) ?_
    refine kq_call (va_runV (As := [.ref (mo + 29), .int b, .int (kq_z true)]) (rest := []) ⟨hx, hb, hml, hown, hts⟩ (c_Mo_below l E A mo far w1 H1 hE hA hO hG hW1 (mo + 29) (hO.2.2.1 29 (by decide) (by decide) (by decide)) b true) (cwV 3 hts (kt_inV kt_w458 kt_w455 kt_w457 kt_s10 kt_w5) rfl rfl rfl (by decide +kernel) ⟨Nat.le_of_ble_eq_true rfl, Nat.le_of_ble_eq_true rfl⟩) (kq_preV ((ks_K_st E A mo)) (hKK) (kq_recv hK hO1 rfl)) rfl rfl hl.1 rfl (lv_room (Nat.le_of_ble_eq_true rfl)) d_Mo_add_0_35 ⟨Nat.zero_le _, Nat.zero_le _⟩) (fun v9 H2 L2 hq2 hL2 => ?_)
    obtain ⟨rfl, hX2⟩ := hq2
    refine W.eq (g2 := F0 m 38 ls []) rfl ?_
    obtain ⟨w2, f2, o2, hW2⟩ : ∃ w : Nat → Nat, w (mo + 29) = w1 (mo + 2 + kx3 b) % kx_m true ∧ (∀ q, q ≠ mo + 29 → w q = w1 q) ∧ ks_W E w H2 := ⟨_, kq_up_at, fun q hq => kq_up_ne hq, hX2⟩
    have hO2 := ks_obj hW2 hO.1 hO.2.1
    have hlc2 := t_lL (free := (fun q => q = mo + 2 + kx3 r ∨ ks_fr mo q)) hlc1 (fun q z => Or.inr (by rw [hL2 q z]; unfold ks_fr; omega))
    have e28 : w2 (mo + 28) = v (mo + 2 + kx3 a) % kx_m true := by rw [o2 (mo + 28) (by omega), f1]
    have e29 : w2 (mo + 29) = v (mo + 2 + kx3 b) % kx_m true := by rw [f2, o1 (mo + 2 + kx3 b) (by omega)]
    have l28 : w2 (mo + 28) < kx_m true := by rw [e28]; exact Nat.mod_lt _ hm0
    have l29 : w2 (mo + 29) < kx_m true := by rw [e29]; exact Nat.mod_lt _ hm0
    have k2 : ∀ q, ¬ ks_fr mo q → w2 q = v q := fun q hq => by rw [o2 q (by unfold ks_fr at hq; omega), o1 q (by unfold ks_fr at hq; omega)]
    have h28 := hO.2.2.1 28 (by decide) (by decide) (by decide)
    have h29 := hO.2.2.1 29 (by decide) (by decide) (by decide)
    have s28 := ks_src hE hW2 hB (Or.inl h28)
    have s29 := ks_src hE hW2 hB (Or.inl h29)
    have r28 := ks_row hW2 h28
    have b28 := ks_lt hE hW2 (Or.inl h28)
    have b29 := ks_lt hE hW2 (Or.inl h29)
    have hm := ks_Am hA true
    refine lv_aload_n hx hb d_Mo_add_0_38 rfl (lv_at hl 1 rfl) ?_
    refine kq_get hx hb hts kt_F_Mo hown hK hO2 rfl 15 (by decide) kt_w391 rfl d_Mo_add_0_39 ?_
    refine lv_aload_n hx hb d_Mo_add_0_42 rfl (lv_at hl 1 rfl) ?_
    refine kq_get hx hb hts kt_F_Mo hown hK hO2 rfl 15 (by decide) kt_w391 rfl d_Mo_add_0_43 ?_
    refine lv_aload_n hx hb d_Mo_add_0_46 rfl (lv_at hl 1 rfl) ?_
    refine kq_get hx hb hts kt_F_Mo hown hK hO2 rfl 16 (by decide) kt_w392 rfl d_Mo_add_0_47 ?_
    refine kq_call (va_runS (As := [.ref (mo + 28), .ref (mo + 28), .ref (mo + 29)]) (rest := []) ⟨hx, hb, hml, hown, hts⟩ (c_Mo_add_1 l H2 (ks_c E) (mo + 28) (mo + 28) (mo + 29) (w2 (mo + 28)) (w2 (mo + 28)) (w2 (mo + 29)) b28 b28 b29 r28) (va_cwS 3 hts (kt_inS kt_w479 kt_w477 kt_w478 kt_w5) rfl rfl rfl (by decide +kernel) ⟨Nat.le_of_ble_eq_true rfl, Nat.le_of_ble_eq_true rfl⟩) (kq_preS (kq_st_A.both (kq_st_r.both kq_st_r)) (⟨hT, s28, s29⟩)) rfl rfl hl.1 rfl (lv_room (Nat.le_of_ble_eq_true rfl)) d_Mo_add_0_50 ⟨Nat.zero_le _, Nat.zero_le _⟩) (fun v9 H9 L3 hq9 hL3 => ?_)
    obtain ⟨rfl, rfl⟩ := hq9
    refine W.eq (g2 := F0 m 53 ls [.int (nI ((w2 (mo + 28) + w2 (mo + 29)) / kw_M 8))]) rfl ?_
    have key := kx_plusm hm8 l28 l29
    rw [e28, e29, ← Nat.add_mod] at key
    rw [← e28, ← e29] at key
    have hX8 : (w2 (mo + 28) + w2 (mo + 29)) % kw_M 8 < kw_M 8 := Nat.mod_lt _ (kw_M_pos 8)
    have hc2 : (w2 (mo + 28) + w2 (mo + 29)) / kw_M 8 < 2 := Nat.div_lt_of_lt_mul (by omega)
    have hW3 := ks_put hE hW2 h28 hX8
    have hO3 := ks_obj hW3 hO.1 hO.2.1
    have s3 := ks_src hE hW3 hB (Or.inl h28)
    have r3 := ks_row hW3 h28
    have sm := ks_src hE hW3 hB (Or.inr hm.1)
    have lm := ks_lt hE hW3 (Or.inr hm.1)
    rw [ks_cst hW3 hm] at sm lm
    rw [kq_up_at] at s3 r3
    have hlc3 := t_lL (free := (fun q => q = mo + 2 + kx3 r ∨ ks_fr mo q)) hlc2 (fun q z => Or.inr (by rw [hL3 q z]; unfold ks_fr; omega))
    refine lv_iconst (v := nI 1) hx hb d_Mo_add_0_53 (by decide) ?_
    refine lv_icmp_eq hx hb d_Mo_add_0_54 rfl (fun hc1 => ?_) (fun hc1 => ?_)
    · have h1 := (kx_n1 (by omega)).mp hc1
      rw [if_pos (Or.inl h1)] at key
      refine lv_aload_n hx hb d_Mo_add_0_69 rfl (lv_at hl 1 rfl) ?_
      refine kq_get hx hb hts kt_F_Mo hown hK hO3 rfl 15 (by decide) kt_w391 rfl d_Mo_add_0_70 ?_
      refine lv_aload_n hx hb d_Mo_add_0_73 rfl (lv_at hl 1 rfl) ?_
      refine kq_get hx hb hts kt_F_Mo hown hK hO3 rfl 15 (by decide) kt_w391 rfl d_Mo_add_0_74 ?_
      refine lv_aload hx hb d_Mo_add_0_77 (lv_at hl 0 rfl) ?_
      refine kq_call (va_runS (As := [.ref (mo + 28), .ref (mo + 28), .ref (A 1)]) (rest := []) ⟨hx, hb, hml, hown, hts⟩ (c_Mo_sub l _ (ks_c E) (mo + 28) (mo + 28) (A 1) ((w2 (mo + 28) + w2 (mo + 29)) % kw_M 8) ((w2 (mo + 28) + w2 (mo + 29)) % kw_M 8) (kx_m true) hX8 hX8 lm r3) (va_cwS 3 hts (kt_inS kt_w475 kt_w473 kt_w474 kt_w5) rfl rfl rfl (by decide +kernel) ⟨Nat.le_of_ble_eq_true rfl, Nat.le_of_ble_eq_true rfl⟩) (kq_preS (kq_st_A.both (kq_st_r.both kq_st_r)) (⟨hT, s3, sm⟩)) rfl rfl hl.1 rfl (lv_room (Nat.le_of_ble_eq_true rfl)) d_Mo_add_0_79 ⟨Nat.zero_le _, Nat.zero_le _⟩) (fun v9 H9 L4 hq9 hL4 => ?_)
      obtain ⟨rfl, rfl⟩ := hq9
      refine W.eq (g2 := F0 m 82 ls [.int (nI (18446744073709551616 - (if (w2 (mo + 28) + w2 (mo + 29)) % kw_M 8 < kx_m true then 1 else 0)))]) rfl ?_
      refine kq_rH (kq_set_set _ _ _ _) ?_
      have hlc4 := t_lL (free := (fun q => q = mo + 2 + kx3 r ∨ ks_fr mo q)) hlc3 (fun q z => Or.inr (by rw [hL4 q z]; unfold ks_fr; omega))
      have hW4 := ks_put hE hW2 h28 (kw_sub_lt ((w2 (mo + 28) + w2 (mo + 29)) % kw_M 8) (kx_m true))
      have hO4 := ks_obj hW4 hO.1 hO.2.1
      refine lv_pop hx hb d_Mo_add_0_82 rfl ?_
      have hro := (hG.1 (kx3 r) (kx3_lt r)).1
      have hsf := ks_src hE hW4 hB (Or.inl (hO.2.2.1 28 (by decide) (by decide) (by decide)))
      have hlf := ks_lt hE hW4 (Or.inl (hO.2.2.1 28 (by decide) (by decide) (by decide)))
      have haf := hKK.2.1.other (hW4.2.2.1 (mo + 1) hG.2.1)
      refine lv_aload_n hx hb d_Mo_add_0_83 rfl (lv_at hl 1 rfl) ?_
      refine kq_get hx hb hts kt_F_Mo hown hK hO4 rfl 0 (by decide) kt_w376 rfl d_Mo_add_0_84 ?_
      refine lv_iload_n hx hb d_Mo_add_0_87 rfl (lv_at hl 2 rfl) ?_
      refine lv_iconst (v := nI 3) hx hb d_Mo_add_0_88 (by decide) ?_
      refine lv_iand hx hb d_Mo_add_0_89 ?_
      refine kq_ri (show r &&& (nI 3) = nI (kx3 r) from kx_and3 r) ?_
      refine kq_aald hx hb (haf) rfl (kx3_lt r) (by decide) (rfl) d_Mo_add_0_90 ?_
      refine lv_aload_n hx hb d_Mo_add_0_91 rfl (lv_at hl 1 rfl) ?_
      refine kq_get hx hb hts kt_F_Mo hown hK hO4 rfl 15 (by decide) kt_w391 rfl d_Mo_add_0_92 ?_
      refine kq_call (va_runS (As := [.ref (mo + 2 + kx3 r), .ref (mo + 28)]) (rest := []) ⟨hx, hb, hml, hown, hts⟩ (c_Mo_copy l _ (ks_c E) (mo + 2 + kx3 r) (mo + 28) _ _ (ks_row hW4 hro)) (va_cwS 2 hts (kt_inS kt_w461 kt_w459 kt_w460 kt_w5) rfl rfl rfl (by decide +kernel) ⟨Nat.le_of_ble_eq_true rfl, Nat.le_of_ble_eq_true rfl⟩) (kq_preS (kq_st_A.both kq_st_r) (⟨hT, hsf⟩)) rfl rfl hl.1 rfl (lv_room (Nat.le_of_ble_eq_true rfl)) d_Mo_add_0_95 ⟨Nat.zero_le _, Nat.zero_le _⟩) (fun v9 H9 L5 hq9 hL5 => ?_)
      obtain ⟨rfl, rfl⟩ := hq9
      refine W.eq (g2 := F0 m 98 ls []) rfl ?_
      have hlc5 := t_lL (free := (fun q => q = mo + 2 + kx3 r ∨ ks_fr mo q)) hlc4 (fun q z => Or.inl (hL5 q z))
      refine W.vret hx hb hret (fun t ht _ => ⟨_, rfl, rfl, _, by rw [ht]; exact ks_put hE hW4 hro hlf, ?_, fun q q0 q1 => ?_⟩) hlc5 d_Mo_add_0_98
      · rw [kq_up_at]
        rw [kq_up_at]
        exact key
      · rw [kq_up_ne q0]
        rw [kq_up_ne (by unfold ks_fr at q1; omega)]
        exact k2 q q1
    · have h1 : ¬ (w2 (mo + 28) + w2 (mo + 29)) / kw_M 8 = 1 := fun z => hc1 ((kx_n1 (by omega)).mpr z)
      refine lv_aload_n hx hb d_Mo_add_0_57 rfl (lv_at hl 1 rfl) ?_
      refine kq_get hx hb hts kt_F_Mo hown hK hO3 rfl 15 (by decide) kt_w391 rfl d_Mo_add_0_58 ?_
      refine lv_aload hx hb d_Mo_add_0_61 (lv_at hl 0 rfl) ?_
      refine kq_call (va_runS (As := [.ref (mo + 28), .ref (A 1)]) (rest := []) ⟨hx, hb, hml, hown, hts⟩ (c_Mo_compare l _ (mo + 28) (A 1) ((w2 (mo + 28) + w2 (mo + 29)) % kw_M 8) (kx_m true) hX8 lm) (va_cwS 2 hts (kt_inS kt_w465 kt_w463 kt_w464 kt_w5) rfl rfl rfl (by decide +kernel) ⟨Nat.le_of_ble_eq_true rfl, Nat.le_of_ble_eq_true rfl⟩) (kq_preS (kq_st_r.both kq_st_r) (⟨s3, sm⟩)) rfl rfl hl.1 rfl (lv_room (Nat.le_of_ble_eq_true rfl)) d_Mo_add_0_63 ⟨Nat.zero_le _, Nat.zero_le _⟩) (fun v9 H9 L4 hq9 hL4 => ?_)
      obtain ⟨rfl, e9⟩ := hq9
      rw [e9]
      clear e9
      refine W.eq (g2 := F0 m 66 ls [.int (kx_cmp ((w2 (mo + 28) + w2 (mo + 29)) % kw_M 8) (kx_m true))]) rfl ?_
      have hlc4 := t_lL (free := (fun q => q = mo + 2 + kx3 r ∨ ks_fr mo q)) hlc3 (fun q z => (hL4 q z).elim)
      refine lv_if_lt hx hb d_Mo_add_0_66 rfl (fun hcm => ?_) (fun hcm => ?_)
      · have h2 := kx_cmp_lt.mp hcm
        rw [if_neg (fun z => z.elim h1 (fun y => by omega))] at key
        have hro := (hG.1 (kx3 r) (kx3_lt r)).1
        have hsf := ks_src hE hW3 hB (Or.inl (hO.2.2.1 28 (by decide) (by decide) (by decide)))
        have hlf := ks_lt hE hW3 (Or.inl (hO.2.2.1 28 (by decide) (by decide) (by decide)))
        have haf := hKK.2.1.other (hW3.2.2.1 (mo + 1) hG.2.1)
        refine lv_aload_n hx hb d_Mo_add_0_83 rfl (lv_at hl 1 rfl) ?_
        refine kq_get hx hb hts kt_F_Mo hown hK hO3 rfl 0 (by decide) kt_w376 rfl d_Mo_add_0_84 ?_
        refine lv_iload_n hx hb d_Mo_add_0_87 rfl (lv_at hl 2 rfl) ?_
        refine lv_iconst (v := nI 3) hx hb d_Mo_add_0_88 (by decide) ?_
        refine lv_iand hx hb d_Mo_add_0_89 ?_
        refine kq_ri (show r &&& (nI 3) = nI (kx3 r) from kx_and3 r) ?_
        refine kq_aald hx hb (haf) rfl (kx3_lt r) (by decide) (rfl) d_Mo_add_0_90 ?_
        refine lv_aload_n hx hb d_Mo_add_0_91 rfl (lv_at hl 1 rfl) ?_
        refine kq_get hx hb hts kt_F_Mo hown hK hO3 rfl 15 (by decide) kt_w391 rfl d_Mo_add_0_92 ?_
        refine kq_call (va_runS (As := [.ref (mo + 2 + kx3 r), .ref (mo + 28)]) (rest := []) ⟨hx, hb, hml, hown, hts⟩ (c_Mo_copy l _ (ks_c E) (mo + 2 + kx3 r) (mo + 28) _ _ (ks_row hW3 hro)) (va_cwS 2 hts (kt_inS kt_w461 kt_w459 kt_w460 kt_w5) rfl rfl rfl (by decide +kernel) ⟨Nat.le_of_ble_eq_true rfl, Nat.le_of_ble_eq_true rfl⟩) (kq_preS (kq_st_A.both kq_st_r) (⟨hT, hsf⟩)) rfl rfl hl.1 rfl (lv_room (Nat.le_of_ble_eq_true rfl)) d_Mo_add_0_95 ⟨Nat.zero_le _, Nat.zero_le _⟩) (fun v9 H9 L5 hq9 hL5 => ?_)
        obtain ⟨rfl, rfl⟩ := hq9
        refine W.eq (g2 := F0 m 98 ls []) rfl ?_
        have hlc5 := t_lL (free := (fun q => q = mo + 2 + kx3 r ∨ ks_fr mo q)) hlc4 (fun q z => Or.inl (hL5 q z))
        refine W.vret hx hb hret (fun t ht _ => ⟨_, rfl, rfl, _, by rw [ht]; exact ks_put hE hW3 hro hlf, ?_, fun q q0 q1 => ?_⟩) hlc5 d_Mo_add_0_98
        · rw [kq_up_at]
          rw [kq_up_at]
          exact key
        · rw [kq_up_ne q0]
          rw [kq_up_ne (by unfold ks_fr at q1; omega)]
          exact k2 q q1
      · have h2 : kx_m true ≤ (w2 (mo + 28) + w2 (mo + 29)) % kw_M 8 := Nat.not_lt.mp (fun z => hcm (kx_cmp_lt.mpr z))
        rw [if_pos (Or.inr h2)] at key
        refine lv_aload_n hx hb d_Mo_add_0_69 rfl (lv_at hl 1 rfl) ?_
        refine kq_get hx hb hts kt_F_Mo hown hK hO3 rfl 15 (by decide) kt_w391 rfl d_Mo_add_0_70 ?_
        refine lv_aload_n hx hb d_Mo_add_0_73 rfl (lv_at hl 1 rfl) ?_
        refine kq_get hx hb hts kt_F_Mo hown hK hO3 rfl 15 (by decide) kt_w391 rfl d_Mo_add_0_74 ?_
        refine lv_aload hx hb d_Mo_add_0_77 (lv_at hl 0 rfl) ?_
        refine kq_call (va_runS (As := [.ref (mo + 28), .ref (mo + 28), .ref (A 1)]) (rest := []) ⟨hx, hb, hml, hown, hts⟩ (c_Mo_sub l _ (ks_c E) (mo + 28) (mo + 28) (A 1) ((w2 (mo + 28) + w2 (mo + 29)) % kw_M 8) ((w2 (mo + 28) + w2 (mo + 29)) % kw_M 8) (kx_m true) hX8 hX8 lm r3) (va_cwS 3 hts (kt_inS kt_w475 kt_w473 kt_w474 kt_w5) rfl rfl rfl (by decide +kernel) ⟨Nat.le_of_ble_eq_true rfl, Nat.le_of_ble_eq_true rfl⟩) (kq_preS (kq_st_A.both (kq_st_r.both kq_st_r)) (⟨hT, s3, sm⟩)) rfl rfl hl.1 rfl (lv_room (Nat.le_of_ble_eq_true rfl)) d_Mo_add_0_79 ⟨Nat.zero_le _, Nat.zero_le _⟩) (fun v9 H9 L5 hq9 hL5 => ?_)
        obtain ⟨rfl, rfl⟩ := hq9
        refine W.eq (g2 := F0 m 82 ls [.int (nI (18446744073709551616 - (if (w2 (mo + 28) + w2 (mo + 29)) % kw_M 8 < kx_m true then 1 else 0)))]) rfl ?_
        refine kq_rH (kq_set_set _ _ _ _) ?_
        have hlc5 := t_lL (free := (fun q => q = mo + 2 + kx3 r ∨ ks_fr mo q)) hlc4 (fun q z => Or.inr (by rw [hL5 q z]; unfold ks_fr; omega))
        have hW4 := ks_put hE hW2 h28 (kw_sub_lt ((w2 (mo + 28) + w2 (mo + 29)) % kw_M 8) (kx_m true))
        have hO4 := ks_obj hW4 hO.1 hO.2.1
        refine lv_pop hx hb d_Mo_add_0_82 rfl ?_
        have hro := (hG.1 (kx3 r) (kx3_lt r)).1
        have hsf := ks_src hE hW4 hB (Or.inl (hO.2.2.1 28 (by decide) (by decide) (by decide)))
        have hlf := ks_lt hE hW4 (Or.inl (hO.2.2.1 28 (by decide) (by decide) (by decide)))
        have haf := hKK.2.1.other (hW4.2.2.1 (mo + 1) hG.2.1)
        refine lv_aload_n hx hb d_Mo_add_0_83 rfl (lv_at hl 1 rfl) ?_
        refine kq_get hx hb hts kt_F_Mo hown hK hO4 rfl 0 (by decide) kt_w376 rfl d_Mo_add_0_84 ?_
        refine lv_iload_n hx hb d_Mo_add_0_87 rfl (lv_at hl 2 rfl) ?_
        refine lv_iconst (v := nI 3) hx hb d_Mo_add_0_88 (by decide) ?_
        refine lv_iand hx hb d_Mo_add_0_89 ?_
        refine kq_ri (show r &&& (nI 3) = nI (kx3 r) from kx_and3 r) ?_
        refine kq_aald hx hb (haf) rfl (kx3_lt r) (by decide) (rfl) d_Mo_add_0_90 ?_
        refine lv_aload_n hx hb d_Mo_add_0_91 rfl (lv_at hl 1 rfl) ?_
        refine kq_get hx hb hts kt_F_Mo hown hK hO4 rfl 15 (by decide) kt_w391 rfl d_Mo_add_0_92 ?_
        refine kq_call (va_runS (As := [.ref (mo + 2 + kx3 r), .ref (mo + 28)]) (rest := []) ⟨hx, hb, hml, hown, hts⟩ (c_Mo_copy l _ (ks_c E) (mo + 2 + kx3 r) (mo + 28) _ _ (ks_row hW4 hro)) (va_cwS 2 hts (kt_inS kt_w461 kt_w459 kt_w460 kt_w5) rfl rfl rfl (by decide +kernel) ⟨Nat.le_of_ble_eq_true rfl, Nat.le_of_ble_eq_true rfl⟩) (kq_preS (kq_st_A.both kq_st_r) (⟨hT, hsf⟩)) rfl rfl hl.1 rfl (lv_room (Nat.le_of_ble_eq_true rfl)) d_Mo_add_0_95 ⟨Nat.zero_le _, Nat.zero_le _⟩) (fun v9 H9 L6 hq9 hL6 => ?_)
        obtain ⟨rfl, rfl⟩ := hq9
        refine W.eq (g2 := F0 m 98 ls []) rfl ?_
        have hlc6 := t_lL (free := (fun q => q = mo + 2 + kx3 r ∨ ks_fr mo q)) hlc5 (fun q z => Or.inl (hL6 q z))
        refine W.vret hx hb hret (fun t ht _ => ⟨_, rfl, rfl, _, by rw [ht]; exact ks_put hE hW4 hro hlf, ?_, fun q q0 q1 => ?_⟩) hlc6 d_Mo_add_0_98
        · rw [kq_up_at]
          rw [kq_up_at]
          exact key
        · rw [kq_up_ne q0]
          rw [kq_up_ne (by unfold ks_fr at q1; omega)]
          exact k2 q q1
theorem d_Mo_multiply_0_0 : decode b_Mo_multiply_0 0 = .ok (.aload_n 0, 1) := by decide +kernel
theorem d_Mo_multiply_0_1 : decode b_Mo_multiply_0 1 = .ok (.aload_n 0, 1) := by decide +kernel
theorem d_Mo_multiply_0_2 : decode b_Mo_multiply_0 2 = .ok (.getfield 58, 3) := by decide +kernel
theorem d_Mo_multiply_0_5 : decode b_Mo_multiply_0 5 = .ok (.iload_n 2, 1) := by decide +kernel
theorem d_Mo_multiply_0_6 : decode b_Mo_multiply_0 6 = .ok (.iload 4, 2) := by decide +kernel
theorem d_Mo_multiply_0_8 : decode b_Mo_multiply_0 8 = .ok (.invokevirtual 138, 3) := by decide +kernel
theorem d_Mo_multiply_0_11 : decode b_Mo_multiply_0 11 = .ok (.aload_n 0, 1) := by decide +kernel
theorem d_Mo_multiply_0_12 : decode b_Mo_multiply_0 12 = .ok (.aload_n 0, 1) := by decide +kernel
theorem d_Mo_multiply_0_13 : decode b_Mo_multiply_0 13 = .ok (.getfield 61, 3) := by decide +kernel
theorem d_Mo_multiply_0_16 : decode b_Mo_multiply_0 16 = .ok (.iload_n 3, 1) := by decide +kernel
theorem d_Mo_multiply_0_17 : decode b_Mo_multiply_0 17 = .ok (.iload 4, 2) := by decide +kernel
theorem d_Mo_multiply_0_19 : decode b_Mo_multiply_0 19 = .ok (.invokevirtual 138, 3) := by decide +kernel
theorem d_Mo_multiply_0_22 : decode b_Mo_multiply_0 22 = .ok (.iload 4, 2) := by decide +kernel
theorem d_Mo_multiply_0_24 : decode b_Mo_multiply_0 24 = .ok (.ifCond .eq 22, 3) := by decide +kernel
theorem d_Mo_multiply_0_27 : decode b_Mo_multiply_0 27 = .ok (.aload_n 0, 1) := by decide +kernel
theorem d_Mo_multiply_0_28 : decode b_Mo_multiply_0 28 = .ok (.aload_n 0, 1) := by decide +kernel
theorem d_Mo_multiply_0_29 : decode b_Mo_multiply_0 29 = .ok (.getfield 58, 3) := by decide +kernel
theorem d_Mo_multiply_0_32 : decode b_Mo_multiply_0 32 = .ok (.aload_n 0, 1) := by decide +kernel
theorem d_Mo_multiply_0_33 : decode b_Mo_multiply_0 33 = .ok (.getfield 58, 3) := by decide +kernel
theorem d_Mo_multiply_0_36 : decode b_Mo_multiply_0 36 = .ok (.aload_n 0, 1) := by decide +kernel
theorem d_Mo_multiply_0_37 : decode b_Mo_multiply_0 37 = .ok (.getfield 61, 3) := by decide +kernel
theorem d_Mo_multiply_0_40 : decode b_Mo_multiply_0 40 = .ok (.invokevirtual 142, 3) := by decide +kernel
theorem d_Mo_multiply_0_43 : decode b_Mo_multiply_0 43 = .ok (.goto 19, 3) := by decide +kernel
theorem d_Mo_multiply_0_46 : decode b_Mo_multiply_0 46 = .ok (.aload_n 0, 1) := by decide +kernel
theorem d_Mo_multiply_0_47 : decode b_Mo_multiply_0 47 = .ok (.aload_n 0, 1) := by decide +kernel
theorem d_Mo_multiply_0_48 : decode b_Mo_multiply_0 48 = .ok (.getfield 58, 3) := by decide +kernel
theorem d_Mo_multiply_0_51 : decode b_Mo_multiply_0 51 = .ok (.aload_n 0, 1) := by decide +kernel
theorem d_Mo_multiply_0_52 : decode b_Mo_multiply_0 52 = .ok (.getfield 58, 3) := by decide +kernel
theorem d_Mo_multiply_0_55 : decode b_Mo_multiply_0 55 = .ok (.aload_n 0, 1) := by decide +kernel
theorem d_Mo_multiply_0_56 : decode b_Mo_multiply_0 56 = .ok (.getfield 61, 3) := by decide +kernel
theorem d_Mo_multiply_0_59 : decode b_Mo_multiply_0 59 = .ok (.invokevirtual 125, 3) := by decide +kernel
theorem d_Mo_multiply_0_62 : decode b_Mo_multiply_0 62 = .ok (.aload_n 0, 1) := by decide +kernel
theorem d_Mo_multiply_0_63 : decode b_Mo_multiply_0 63 = .ok (.getfield 9, 3) := by decide +kernel
theorem d_Mo_multiply_0_66 : decode b_Mo_multiply_0 66 = .ok (.iload_n 1, 1) := by decide +kernel
theorem d_Mo_multiply_0_67 : decode b_Mo_multiply_0 67 = .ok (.iconst 3, 1) := by decide +kernel
theorem d_Mo_multiply_0_68 : decode b_Mo_multiply_0 68 = .ok (.iand, 1) := by decide +kernel
theorem d_Mo_multiply_0_69 : decode b_Mo_multiply_0 69 = .ok (.aaload, 1) := by decide +kernel
theorem d_Mo_multiply_0_70 : decode b_Mo_multiply_0 70 = .ok (.aload_n 0, 1) := by decide +kernel
theorem d_Mo_multiply_0_71 : decode b_Mo_multiply_0 71 = .ok (.getfield 58, 3) := by decide +kernel
theorem d_Mo_multiply_0_74 : decode b_Mo_multiply_0 74 = .ok (.invokestatic 104, 3) := by decide +kernel
theorem d_Mo_multiply_0_77 : decode b_Mo_multiply_0 77 = .ok (.return_, 1) := by decide +kernel
set_option maxHeartbeats 4000000 in
set_option maxRecDepth 100000 in
theorem c_Mo_multiply_0 (l : Launch) (E : ks_E) (A : Nat → Nat) (mo : Nat) (far : Bool) (v : Nat → Nat) (H : Heap) (hE : ks_ok E) (hA : ks_A E A) (hO : ks_O E mo far) (hG : ks_G E mo) (hW : ks_W E v H) (r a b : Int32) (d : Bool) : Met l y_Mo_multiply_0 w_Mo_multiply_0 ({ frames := 4, cells := 0, slots := 0, locals := 92 }) (kq_P [.ref mo, .int r, .int a, .int b, .int (kq_z d)] H (ks_K E A mo)) (kq_Q (fun o1 H1 => o1 = none ∧ ∃ w : Nat → Nat, ks_W E w H1 ∧ w (mo + 2 + kx3 r) = v (mo + 2 + kx3 a) * v (mo + 2 + kx3 b) % kx_m d ∧ ∀ q, q ≠ mo + 2 + kx3 r → ¬ ks_fr mo q → w q = v q)) 0 0 (fun q => q = mo + 2 + kx3 r ∨ ks_fr mo q) := by
  refine Met.ofW (cc := b_Mo_multiply_0) (maxL := 5) (ret := none) (by decide) rfl ?_
  intro p e s m args below meth c s₁ B0 hml hv
  obtain ⟨rfl, hH, hKK⟩ := hv
  have hx := B0.exec
  have hb := B0.bytes
  have hret := B0.returns
  have hts := atoms_spec (ws := w_Mo_multiply_0) B0.pre
  have hown : s.vm.findClass R_Mo = some m.cls := findClass_of_methodNamed B0.named
  have hlocks := B0.notSynchronized
  rw [hH]
  have hl := lv_entry ([.ref mo, .int r, .int a, .int b, .int (kq_z d)]) (n := 5) (Nat.le_of_ble_eq_true rfl)
  rw [lg_entry_eq]
  generalize (lg_sl ([.ref mo, .int r, .int a, .int b, .int (kq_z d)]) ++ List.replicate (5 - (lg_sl ([.ref mo, .int r, .int a, .int b, .int (kq_z d)])).length) Slot.unset).toArray = ls at hl ⊢
  have hl : lv_has ls 5 [(0, .ref mo), (1, .int r), (2, .int a), (3, .int b), (4, .int (kq_z d))] := hl
  have hC := hKK.1
  have hB := hC.1
  have hK := hB.1
  have hT := ks_T hE hB
  have hOo := ks_obj hW hO.1 hO.2.1
  have hlc0 : ∀ q ∈ ([] : List Loc), q.base = mo + 2 + kx3 r ∨ ks_fr mo q.base := fun q h => by cases h
  have ka := kx3_lt a
  have kb := kx3_lt b
  have kr := kx3_lt r
  obtain ⟨hm0, hm8⟩ := kx_m_lt d
  refine lv_aload_n hx hb d_Mo_multiply_0_0 rfl (lv_at hl 0 rfl) ?_
  refine lv_aload_n hx hb d_Mo_multiply_0_1 rfl (lv_at hl 0 rfl) ?_
  refine kq_get hx hb hts kt_F_Mo hown hK hOo rfl 15 (by decide) kt_w391 rfl d_Mo_multiply_0_2 ?_
  refine lv_iload_n hx hb d_Mo_multiply_0_5 rfl (lv_at hl 2 rfl) ?_
  refine lv_iload hx hb d_Mo_multiply_0_6 (lv_at hl 4 rfl) ?_
  refine kq_call (va_runV (As := [.ref (mo + 28), .int a, .int (kq_z d)]) (rest := []) ⟨hx, hb, hml, hown, hts⟩ (c_Mo_below l E A mo far v H hE hA hO hG hW (mo + 28) (hO.2.2.1 28 (by decide) (by decide) (by decide)) a d) (cwV 3 hts (kt_inV kt_w458 kt_w455 kt_w457 kt_s10 kt_w5) rfl rfl rfl (by decide +kernel) ⟨Nat.le_of_ble_eq_true rfl, Nat.le_of_ble_eq_true rfl⟩) (kq_preV ((ks_K_st E A mo)) (hKK) (kq_recv hK hOo rfl)) rfl rfl hl.1 rfl (lv_room (Nat.le_of_ble_eq_true rfl)) d_Mo_multiply_0_8 ⟨Nat.zero_le _, Nat.zero_le _⟩) (fun v9 H1 L1 hq1 hL1 => ?_)
  obtain ⟨rfl, hX1⟩ := hq1
  refine W.eq (g2 := F0 m 11 ls []) rfl ?_
  obtain ⟨w1, f1, o1, hW1⟩ : ∃ w : Nat → Nat, w (mo + 28) = v (mo + 2 + kx3 a) % kx_m d ∧ (∀ q, q ≠ mo + 28 → w q = v q) ∧ ks_W E w H1 := ⟨_, kq_up_at, fun q hq => kq_up_ne hq, hX1⟩
  have hO1 := ks_obj hW1 hO.1 hO.2.1
  have hlc1 := t_lL (free := (fun q => q = mo + 2 + kx3 r ∨ ks_fr mo q)) hlc0 (fun q z => Or.inr (by rw [hL1 q z]; unfold ks_fr; omega))
  refine lv_aload_n hx hb d_Mo_multiply_0_11 rfl (lv_at hl 0 rfl) ?_
  refine lv_aload_n hx hb d_Mo_multiply_0_12 rfl (lv_at hl 0 rfl) ?_
  refine kq_get hx hb hts kt_F_Mo hown hK hO1 rfl 16 (by decide) kt_w392 rfl d_Mo_multiply_0_13 ?_
  refine lv_iload_n hx hb d_Mo_multiply_0_16 rfl (lv_at hl 3 rfl) ?_
  refine lv_iload hx hb d_Mo_multiply_0_17 (lv_at hl 4 rfl) ?_
  refine kq_call (va_runV (As := [.ref (mo + 29), .int b, .int (kq_z d)]) (rest := []) ⟨hx, hb, hml, hown, hts⟩ (c_Mo_below l E A mo far w1 H1 hE hA hO hG hW1 (mo + 29) (hO.2.2.1 29 (by decide) (by decide) (by decide)) b d) (cwV 3 hts (kt_inV kt_w458 kt_w455 kt_w457 kt_s10 kt_w5) rfl rfl rfl (by decide +kernel) ⟨Nat.le_of_ble_eq_true rfl, Nat.le_of_ble_eq_true rfl⟩) (kq_preV ((ks_K_st E A mo)) (hKK) (kq_recv hK hO1 rfl)) rfl rfl hl.1 rfl (lv_room (Nat.le_of_ble_eq_true rfl)) d_Mo_multiply_0_19 ⟨Nat.zero_le _, Nat.zero_le _⟩) (fun v9 H2 L2 hq2 hL2 => ?_)
  obtain ⟨rfl, hX2⟩ := hq2
  refine W.eq (g2 := F0 m 22 ls []) rfl ?_
  obtain ⟨w2, f2, o2, hW2⟩ : ∃ w : Nat → Nat, w (mo + 29) = w1 (mo + 2 + kx3 b) % kx_m d ∧ (∀ q, q ≠ mo + 29 → w q = w1 q) ∧ ks_W E w H2 := ⟨_, kq_up_at, fun q hq => kq_up_ne hq, hX2⟩
  have hO2 := ks_obj hW2 hO.1 hO.2.1
  have hlc2 := t_lL (free := (fun q => q = mo + 2 + kx3 r ∨ ks_fr mo q)) hlc1 (fun q z => Or.inr (by rw [hL2 q z]; unfold ks_fr; omega))
  have e28 : w2 (mo + 28) = v (mo + 2 + kx3 a) % kx_m d := by rw [o2 (mo + 28) (by omega), f1]
  have e29 : w2 (mo + 29) = v (mo + 2 + kx3 b) % kx_m d := by rw [f2, o1 (mo + 2 + kx3 b) (by omega)]
  have l28 : w2 (mo + 28) < kx_m d := by rw [e28]; exact Nat.mod_lt _ hm0
  have l29 : w2 (mo + 29) < kx_m d := by rw [e29]; exact Nat.mod_lt _ hm0
  have k2 : ∀ q, ¬ ks_fr mo q → w2 q = v q := fun q hq => by rw [o2 q (by unfold ks_fr at hq; omega), o1 q (by unfold ks_fr at hq; omega)]
  have h28 := hO.2.2.1 28 (by decide) (by decide) (by decide)
  have h29 := hO.2.2.1 29 (by decide) (by decide) (by decide)
  have s28 := ks_src hE hW2 hB (Or.inl h28)
  have s29 := ks_src hE hW2 hB (Or.inl h29)
  have r28 := ks_row hW2 h28
  have b28 := ks_lt hE hW2 (Or.inl h28)
  have b29 := ks_lt hE hW2 (Or.inl h29)
  have hm := ks_Am hA d
  refine lv_iload hx hb d_Mo_multiply_0_22 (lv_at hl 4 rfl) ?_
  refine lv_if_eq hx hb d_Mo_multiply_0_24 rfl (fun hc0 => ?_) (fun hc0 => ?_)
  · have hd := kq_z_b0 hc0
    subst hd
    have hkm : kx_m false = kP := rfl
    refine lv_aload_n hx hb d_Mo_multiply_0_46 rfl (lv_at hl 0 rfl) ?_
    refine lv_aload_n hx hb d_Mo_multiply_0_47 rfl (lv_at hl 0 rfl) ?_
    refine kq_get hx hb hts kt_F_Mo hown hK hO2 rfl 15 (by decide) kt_w391 rfl d_Mo_multiply_0_48 ?_
    refine lv_aload_n hx hb d_Mo_multiply_0_51 rfl (lv_at hl 0 rfl) ?_
    refine kq_get hx hb hts kt_F_Mo hown hK hO2 rfl 15 (by decide) kt_w391 rfl d_Mo_multiply_0_52 ?_
    refine lv_aload_n hx hb d_Mo_multiply_0_55 rfl (lv_at hl 0 rfl) ?_
    refine kq_get hx hb hts kt_F_Mo hown hK hO2 rfl 16 (by decide) kt_w392 rfl d_Mo_multiply_0_56 ?_
    refine kq_call (va_runV (As := [.ref (mo + 28), .ref (mo + 28), .ref (mo + 29)]) (rest := []) ⟨hx, hb, hml, hown, hts⟩ (c_Mo_times_1 l E A mo far w2 H2 hE hA hO hW2 (mo + 28) (mo + 28) (mo + 29) h28 (Or.inl h28) (Or.inl h29)) (cwV 3 hts (kt_inV kt_w499 kt_w496 kt_w498 kt_s13 kt_w5) rfl rfl rfl (by decide +kernel) ⟨Nat.le_of_ble_eq_true rfl, Nat.le_of_ble_eq_true rfl⟩) (kq_preV ((ks_C_st E A)) (hC) (kq_recv hK hO2 rfl)) rfl rfl hl.1 rfl (lv_room (Nat.le_of_ble_eq_true rfl)) d_Mo_multiply_0_59 ⟨Nat.zero_le _, Nat.zero_le _⟩) (fun v9 H3 L3 hq3 hL3 => ?_)
    obtain ⟨rfl, w3, hW3, e3, o3⟩ := hq3
    refine W.eq (g2 := F0 m 62 ls []) rfl ?_
    have hO3 := ks_obj hW3 hO.1 hO.2.1
    have hlc3 := t_lL (free := (fun q => q = mo + 2 + kx3 r ∨ ks_fr mo q)) hlc2 (fun q z => Or.inr (by rcases hL3 q z with y | y <;> (rw [y]; unfold ks_fr; omega)))
    have hro := (hG.1 (kx3 r) (kx3_lt r)).1
    have hsf := ks_src hE hW3 hB (Or.inl (hO.2.2.1 28 (by decide) (by decide) (by decide)))
    have hlf := ks_lt hE hW3 (Or.inl (hO.2.2.1 28 (by decide) (by decide) (by decide)))
    have haf := hKK.2.1.other (hW3.2.2.1 (mo + 1) hG.2.1)
    refine lv_aload_n hx hb d_Mo_multiply_0_62 rfl (lv_at hl 0 rfl) ?_
    refine kq_get hx hb hts kt_F_Mo hown hK hO3 rfl 0 (by decide) kt_w376 rfl d_Mo_multiply_0_63 ?_
    refine lv_iload_n hx hb d_Mo_multiply_0_66 rfl (lv_at hl 1 rfl) ?_
    refine lv_iconst (v := nI 3) hx hb d_Mo_multiply_0_67 (by decide) ?_
    refine lv_iand hx hb d_Mo_multiply_0_68 ?_
    refine kq_ri (show r &&& (nI 3) = nI (kx3 r) from kx_and3 r) ?_
    refine kq_aald hx hb (haf) rfl (kx3_lt r) (by decide) (rfl) d_Mo_multiply_0_69 ?_
    refine lv_aload_n hx hb d_Mo_multiply_0_70 rfl (lv_at hl 0 rfl) ?_
    refine kq_get hx hb hts kt_F_Mo hown hK hO3 rfl 15 (by decide) kt_w391 rfl d_Mo_multiply_0_71 ?_
    refine kq_call (va_runS (As := [.ref (mo + 2 + kx3 r), .ref (mo + 28)]) (rest := []) ⟨hx, hb, hml, hown, hts⟩ (c_Mo_copy l H3 (ks_c E) (mo + 2 + kx3 r) (mo + 28) _ _ (ks_row hW3 hro)) (va_cwS 2 hts (kt_inS kt_w461 kt_w459 kt_w460 kt_w5) rfl rfl rfl (by decide +kernel) ⟨Nat.le_of_ble_eq_true rfl, Nat.le_of_ble_eq_true rfl⟩) (kq_preS (kq_st_A.both kq_st_r) (⟨hT, hsf⟩)) rfl rfl hl.1 rfl (lv_room (Nat.le_of_ble_eq_true rfl)) d_Mo_multiply_0_74 ⟨Nat.zero_le _, Nat.zero_le _⟩) (fun v9 H9 L4 hq9 hL4 => ?_)
    obtain ⟨rfl, rfl⟩ := hq9
    refine W.eq (g2 := F0 m 77 ls []) rfl ?_
    have hlc4 := t_lL (free := (fun q => q = mo + 2 + kx3 r ∨ ks_fr mo q)) hlc3 (fun q z => Or.inl (hL4 q z))
    refine W.vret hx hb hret (fun t ht _ => ⟨_, rfl, rfl, _, by rw [ht]; exact ks_put hE hW3 hro hlf, ?_, fun q q0 q1 => ?_⟩) hlc4 d_Mo_multiply_0_77
    · rw [kq_up_at]
      rw [hkm] at e28 e29
      rw [hkm, e3, e28, e29, ← Nat.mul_mod]
    · rw [kq_up_ne q0]
      rw [o3 q (by unfold ks_fr at q1; omega) (by unfold ks_fr at q1; omega)]
      exact k2 q q1
  · have hd := kq_z_b1 hc0
    subst hd
    have hkm : kx_m true = kN := rfl
    refine lv_aload_n hx hb d_Mo_multiply_0_27 rfl (lv_at hl 0 rfl) ?_
    refine lv_aload_n hx hb d_Mo_multiply_0_28 rfl (lv_at hl 0 rfl) ?_
    refine kq_get hx hb hts kt_F_Mo hown hK hO2 rfl 15 (by decide) kt_w391 rfl d_Mo_multiply_0_29 ?_
    refine lv_aload_n hx hb d_Mo_multiply_0_32 rfl (lv_at hl 0 rfl) ?_
    refine kq_get hx hb hts kt_F_Mo hown hK hO2 rfl 15 (by decide) kt_w391 rfl d_Mo_multiply_0_33 ?_
    refine lv_aload_n hx hb d_Mo_multiply_0_36 rfl (lv_at hl 0 rfl) ?_
    refine kq_get hx hb hts kt_F_Mo hown hK hO2 rfl 16 (by decide) kt_w392 rfl d_Mo_multiply_0_37 ?_
    refine kq_call (va_runV (As := [.ref (mo + 28), .ref (mo + 28), .ref (mo + 29)]) (rest := []) ⟨hx, hb, hml, hown, hts⟩ (c_Mo_timesN l E A mo far w2 H2 hE hA hO hW2 (mo + 28) (mo + 28) (mo + 29) h28 (Or.inl h28) (Or.inl h29)) (cwV 3 hts (kt_inV kt_w491 kt_w488 kt_w490 kt_s11 kt_w5) rfl rfl rfl (by decide +kernel) ⟨Nat.le_of_ble_eq_true rfl, Nat.le_of_ble_eq_true rfl⟩) (kq_preV ((ks_C_st E A)) (hC) (kq_recv hK hO2 rfl)) rfl rfl hl.1 rfl (lv_room (Nat.le_of_ble_eq_true rfl)) d_Mo_multiply_0_40 ⟨Nat.zero_le _, Nat.zero_le _⟩) (fun v9 H3 L3 hq3 hL3 => ?_)
    obtain ⟨rfl, w3, hW3, e3, o3⟩ := hq3
    refine W.eq (g2 := F0 m 43 ls []) rfl ?_
    have hO3 := ks_obj hW3 hO.1 hO.2.1
    have hlc3 := t_lL (free := (fun q => q = mo + 2 + kx3 r ∨ ks_fr mo q)) hlc2 (fun q z => Or.inr (by rcases hL3 q z with y | y | y <;> (rw [y]; unfold ks_fr; omega)))
    refine lv_goto hx hb d_Mo_multiply_0_43 rfl ?_
    have hro := (hG.1 (kx3 r) (kx3_lt r)).1
    have hsf := ks_src hE hW3 hB (Or.inl (hO.2.2.1 28 (by decide) (by decide) (by decide)))
    have hlf := ks_lt hE hW3 (Or.inl (hO.2.2.1 28 (by decide) (by decide) (by decide)))
    have haf := hKK.2.1.other (hW3.2.2.1 (mo + 1) hG.2.1)
    refine lv_aload_n hx hb d_Mo_multiply_0_62 rfl (lv_at hl 0 rfl) ?_
    refine kq_get hx hb hts kt_F_Mo hown hK hO3 rfl 0 (by decide) kt_w376 rfl d_Mo_multiply_0_63 ?_
    refine lv_iload_n hx hb d_Mo_multiply_0_66 rfl (lv_at hl 1 rfl) ?_
    refine lv_iconst (v := nI 3) hx hb d_Mo_multiply_0_67 (by decide) ?_
    refine lv_iand hx hb d_Mo_multiply_0_68 ?_
    refine kq_ri (show r &&& (nI 3) = nI (kx3 r) from kx_and3 r) ?_
    refine kq_aald hx hb (haf) rfl (kx3_lt r) (by decide) (rfl) d_Mo_multiply_0_69 ?_
    refine lv_aload_n hx hb d_Mo_multiply_0_70 rfl (lv_at hl 0 rfl) ?_
    refine kq_get hx hb hts kt_F_Mo hown hK hO3 rfl 15 (by decide) kt_w391 rfl d_Mo_multiply_0_71 ?_
    refine kq_call (va_runS (As := [.ref (mo + 2 + kx3 r), .ref (mo + 28)]) (rest := []) ⟨hx, hb, hml, hown, hts⟩ (c_Mo_copy l H3 (ks_c E) (mo + 2 + kx3 r) (mo + 28) _ _ (ks_row hW3 hro)) (va_cwS 2 hts (kt_inS kt_w461 kt_w459 kt_w460 kt_w5) rfl rfl rfl (by decide +kernel) ⟨Nat.le_of_ble_eq_true rfl, Nat.le_of_ble_eq_true rfl⟩) (kq_preS (kq_st_A.both kq_st_r) (⟨hT, hsf⟩)) rfl rfl hl.1 rfl (lv_room (Nat.le_of_ble_eq_true rfl)) d_Mo_multiply_0_74 ⟨Nat.zero_le _, Nat.zero_le _⟩) (fun v9 H9 L4 hq9 hL4 => ?_)
    obtain ⟨rfl, rfl⟩ := hq9
    refine W.eq (g2 := F0 m 77 ls []) rfl ?_
    have hlc4 := t_lL (free := (fun q => q = mo + 2 + kx3 r ∨ ks_fr mo q)) hlc3 (fun q z => Or.inl (hL4 q z))
    refine W.vret hx hb hret (fun t ht _ => ⟨_, rfl, rfl, _, by rw [ht]; exact ks_put hE hW3 hro hlf, ?_, fun q q0 q1 => ?_⟩) hlc4 d_Mo_multiply_0_77
    · rw [kq_up_at]
      rw [hkm] at e28 e29
      rw [hkm, e3, e28, e29, ← Nat.mul_mod]
    · rw [kq_up_ne q0]
      rw [o3 q (by unfold ks_fr at q1; omega) (by unfold ks_fr at q1; omega) (by unfold ks_fr at q1; omega)]
      exact k2 q q1
