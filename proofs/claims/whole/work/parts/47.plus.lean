/-! KeyCurveModel: plus (own rows). -/
theorem d_Mo_plus_0_0 : decode b_Mo_plus_0 0 = .ok (.aload_n 0, 1) := by decide +kernel
theorem d_Mo_plus_0_1 : decode b_Mo_plus_0 1 = .ok (.iload_n 2, 1) := by decide +kernel
theorem d_Mo_plus_0_2 : decode b_Mo_plus_0 2 = .ok (.invokevirtual 170, 3) := by decide +kernel
theorem d_Mo_plus_0_5 : decode b_Mo_plus_0 5 = .ok (.aload_n 0, 1) := by decide +kernel
theorem d_Mo_plus_0_6 : decode b_Mo_plus_0 6 = .ok (.getfield 20, 3) := by decide +kernel
theorem d_Mo_plus_0_9 : decode b_Mo_plus_0 9 = .ok (.iload_n 3, 1) := by decide +kernel
theorem d_Mo_plus_0_10 : decode b_Mo_plus_0 10 = .ok (.iconst 3, 1) := by decide +kernel
theorem d_Mo_plus_0_11 : decode b_Mo_plus_0 11 = .ok (.iand, 1) := by decide +kernel
theorem d_Mo_plus_0_12 : decode b_Mo_plus_0 12 = .ok (.baload, 1) := by decide +kernel
theorem d_Mo_plus_0_13 : decode b_Mo_plus_0 13 = .ok (.ifCond .ne 23, 3) := by decide +kernel
theorem d_Mo_plus_0_16 : decode b_Mo_plus_0 16 = .ok (.aload_n 0, 1) := by decide +kernel
theorem d_Mo_plus_0_17 : decode b_Mo_plus_0 17 = .ok (.aload_n 0, 1) := by decide +kernel
theorem d_Mo_plus_0_18 : decode b_Mo_plus_0 18 = .ok (.getfield 14, 3) := by decide +kernel
theorem d_Mo_plus_0_21 : decode b_Mo_plus_0 21 = .ok (.iload_n 3, 1) := by decide +kernel
theorem d_Mo_plus_0_22 : decode b_Mo_plus_0 22 = .ok (.iconst 3, 1) := by decide +kernel
theorem d_Mo_plus_0_23 : decode b_Mo_plus_0 23 = .ok (.iand, 1) := by decide +kernel
theorem d_Mo_plus_0_24 : decode b_Mo_plus_0 24 = .ok (.aaload, 1) := by decide +kernel
theorem d_Mo_plus_0_25 : decode b_Mo_plus_0 25 = .ok (.aload_n 0, 1) := by decide +kernel
theorem d_Mo_plus_0_26 : decode b_Mo_plus_0 26 = .ok (.getfield 17, 3) := by decide +kernel
theorem d_Mo_plus_0_29 : decode b_Mo_plus_0 29 = .ok (.iload_n 3, 1) := by decide +kernel
theorem d_Mo_plus_0_30 : decode b_Mo_plus_0 30 = .ok (.iconst 3, 1) := by decide +kernel
theorem d_Mo_plus_0_31 : decode b_Mo_plus_0 31 = .ok (.iand, 1) := by decide +kernel
theorem d_Mo_plus_0_32 : decode b_Mo_plus_0 32 = .ok (.aaload, 1) := by decide +kernel
theorem d_Mo_plus_0_33 : decode b_Mo_plus_0 33 = .ok (.invokevirtual 174, 3) := by decide +kernel
theorem d_Mo_plus_0_36 : decode b_Mo_plus_0 36 = .ok (.aload_n 0, 1) := by decide +kernel
theorem d_Mo_plus_0_37 : decode b_Mo_plus_0 37 = .ok (.iload_n 1, 1) := by decide +kernel
theorem d_Mo_plus_0_38 : decode b_Mo_plus_0 38 = .ok (.invokevirtual 177, 3) := by decide +kernel
theorem d_Mo_plus_0_41 : decode b_Mo_plus_0 41 = .ok (.return_, 1) := by decide +kernel
set_option maxHeartbeats 4000000 in
set_option maxRecDepth 100000 in
theorem c_Mo_plus_0 (l : Launch) (E : ks_E) (A : Nat → Nat) (mo : Nat) (cZ : ClassId) (far : Bool) (bs : Nat → Bool) (v : Nat → Nat) (H : Heap) (hE : ks_ok E) (hA : ks_A E A) (hG : ks_G E mo) (hF : ks_F E mo cZ far bs) (hW : ks_W E v H) (hlow : ∀ j, j < 4 → bs j = false → v (mo + 7 + j) < kP ∧ v (mo + 12 + j) < kP) (q a b : Int32) : Met l y_Mo_plus_0 w_Mo_plus_0 ({ frames := 6, cells := 0, slots := 0, locals := 138 }) (kq_P [.ref mo, .int q, .int a, .int b] H (ks_KZ E A mo cZ)) (kq_Q (fun o1 H1 => o1 = none ∧ ∃ (far2 : Bool) (w : Nat → Nat), ks_X E mo cZ far2 (kx_ub bs (kx3 q) (kc_sum2 (bs (kx3 a)) (v (mo + 7 + kx3 a)) (v (mo + 12 + kx3 a)) (bs (kx3 b)) (v (mo + 7 + kx3 b)) (v (mo + 12 + kx3 b))).isNone) w H1 ∧ (∀ q0, kc_sum2 (bs (kx3 a)) (v (mo + 7 + kx3 a)) (v (mo + 12 + kx3 a)) (bs (kx3 b)) (v (mo + 7 + kx3 b)) (v (mo + 12 + kx3 b)) = some q0 → w (mo + 7 + kx3 q) = q0.1 ∧ w (mo + 12 + kx3 q) = q0.2) ∧ (kc_sum2 (bs (kx3 a)) (v (mo + 7 + kx3 a)) (v (mo + 12 + kx3 a)) (bs (kx3 b)) (v (mo + 7 + kx3 b)) (v (mo + 12 + kx3 b)) = none → w (mo + 7 + kx3 q) = v (mo + 7 + kx3 q) ∧ w (mo + 12 + kx3 q) = v (mo + 12 + kx3 q)) ∧ ∀ x, x ≠ mo + 7 + kx3 q → x ≠ mo + 12 + kx3 q → ¬ ks_fr mo x → w x = v x)) 0 0 (fun x => x = mo ∨ x = mo + 7 + kx3 q ∨ x = mo + 12 + kx3 q ∨ x = mo + 16 ∨ ks_fr mo x) := by
  refine Met.ofW (cc := b_Mo_plus_0) (maxL := 4) (ret := none) (by decide) rfl ?_
  intro p e s m args below meth c s₁ B0 hml hv
  obtain ⟨rfl, hH, hKZ⟩ := hv
  have hx := B0.exec
  have hb := B0.bytes
  have hret := B0.returns
  have hts := atoms_spec (ws := w_Mo_plus_0) B0.pre
  have hown : s.vm.findClass R_Mo = some m.cls := findClass_of_methodNamed B0.named
  have hlocks := B0.notSynchronized
  rw [hH]
  have hl := lv_entry ([.ref mo, .int q, .int a, .int b]) (n := 4) (Nat.le_of_ble_eq_true rfl)
  rw [lg_entry_eq]
  generalize (lg_sl ([.ref mo, .int q, .int a, .int b]) ++ List.replicate (4 - (lg_sl ([.ref mo, .int q, .int a, .int b])).length) Slot.unset).toArray = ls at hl ⊢
  have hl : lv_has ls 4 [(0, .ref mo), (1, .int q), (2, .int a), (3, .int b)] := hl
  have hKK := hKZ.1
  have hC := hKK.1
  have hB := hC.1
  have hK := hB.1
  have hT := ks_T hE hB
  have hO := hF.1
  have hOo := ks_obj hW hO.1 hO.2.1
  have hNn : H[mo + 16]? = some (kq_B cZ bs) := (hW.2.2.1 _ hF.2.2.1).trans hF.2.1
  have hzr : kq_r s .boolean H (mo + 16) 4 (fun j => .int (kq_z (bs j))) := kq_r.ofV hKZ.2 hNn
  have har := hKK.2.1.other (hW.2.2.1 (mo + 1) hG.2.1)
  have hax := hKK.2.2.1.other (hW.2.2.1 (mo + 6) hG.2.2.1)
  have hay := hKK.2.2.2.other (hW.2.2.1 (mo + 11) hG.2.2.2)
  have hlc0 : ∀ x ∈ ([] : List Loc), (fun x => x = mo ∨ x = mo + 7 + kx3 q ∨ x = mo + 12 + kx3 q ∨ x = mo + 16 ∨ ks_fr mo x) x.base := fun x h => by cases h
  have ka := kx3_lt a
  have kb := kx3_lt b
  have hxo := (hG.1 (kx3 b) kb).2.1
  have hyo := (hG.1 (kx3 b) kb).2.2
  refine lv_aload_n hx hb d_Mo_plus_0_0 rfl (lv_at hl 0 rfl) ?_
  refine lv_iload_n hx hb d_Mo_plus_0_1 rfl (lv_at hl 2 rfl) ?_
  refine kq_call (va_runV (As := [.int a]) (rest := []) ⟨hx, hb, hml, hown, hts⟩ (c_Mo_load l E A mo cZ far bs v H hE hA hG hF hW a) (cwV 1 hts (kt_inV kt_w570 kt_w567 kt_w569 kt_s18 kt_w5) rfl rfl rfl (by decide +kernel) ⟨Nat.le_of_ble_eq_true rfl, Nat.le_of_ble_eq_true rfl⟩) (kq_preV ((ks_KZ_st E A mo cZ)) (hKZ) (kq_recv hK hOo rfl)) rfl rfl hl.1 rfl (lv_room (Nat.le_of_ble_eq_true rfl)) d_Mo_plus_0_2 ⟨Nat.zero_le _, Nat.zero_le _⟩) (fun v9 H1 L1 hq1 hL1 => ?_)
  obtain ⟨rfl, hX1⟩ := hq1
  refine W.eq (g2 := F0 m 5 ls []) rfl ?_
  have hlc1 := t_lL (free := (fun x => x = mo ∨ x = mo + 7 + kx3 q ∨ x = mo + 12 + kx3 q ∨ x = mo + 16 ∨ ks_fr mo x)) hlc0 (fun x z => (by rcases hL1 x z with y | y | y; exact Or.inl y; exact Or.inr (Or.inr (Or.inr (Or.inr (by rw [y]; unfold ks_fr; omega)))); exact Or.inr (Or.inr (Or.inr (Or.inr (by rw [y]; unfold ks_fr; omega))))))
  obtain ⟨w1, e26, e27, o1, hX1⟩ : ∃ w : Nat → Nat, w (mo + 26) = v (mo + 7 + kx3 a) ∧ w (mo + 27) = v (mo + 12 + kx3 a) ∧ (∀ x, ¬ ks_fr mo x → w x = v x) ∧ ks_X E mo cZ (bs (kx3 a)) bs w H1 := ⟨_, by rw [kq_up_ne (by omega), kq_up_at], kq_up_at, fun x hx1 => (by unfold ks_fr at hx1; rw [kq_up_ne (by omega), kq_up_ne (by omega)]), hX1⟩
  obtain ⟨B1, hlk1, hW1, hF1⟩ := hX1
  have hE1 : ks_ok (ks_at E B1) := hE
  have hA1 : ks_A (ks_at E B1) A := hA
  have hG1 : ks_G (ks_at E B1) mo := hG
  have hK1 := ks_K_at hE hG hF hlk1 hKK
  have hO1 := ks_obj hW1 hF1.1.1 hF1.1.2.1
  have hN1 : H1[mo + 16]? = some (kq_B cZ bs) := (hW1.2.2.1 _ hF1.2.2.1).trans hF1.2.1
  have hzr1 : kq_r s .boolean H1 (mo + 16) 4 (fun j => .int (kq_z (bs j))) := kq_r.ofV hKZ.2 hN1
  have har1 := hK1.2.1.other (hW1.2.2.1 (mo + 1) hG.2.1)
  have hax1 := hK1.2.2.1.other (hW1.2.2.1 (mo + 6) hG.2.2.1)
  have hay1 := hK1.2.2.2.other (hW1.2.2.1 (mo + 11) hG.2.2.2)
  have hp1 : kx_pt mo (bs (kx3 a)) w1 = (if bs (kx3 a) = true then none else kc_join none (v (mo + 7 + kx3 a)) (v (mo + 12 + kx3 a))) := by unfold kx_pt; rw [e26, e27]; rfl
  refine lv_aload_n hx hb d_Mo_plus_0_5 rfl (lv_at hl 0 rfl) ?_
  refine kq_get hx hb hts kt_F_Mo hown hK hO1 rfl 3 (by decide) kt_w379 rfl d_Mo_plus_0_6 ?_
  refine lv_iload_n hx hb d_Mo_plus_0_9 rfl (lv_at hl 3 rfl) ?_
  refine lv_iconst (v := nI 3) hx hb d_Mo_plus_0_10 (by decide) ?_
  refine lv_iand hx hb d_Mo_plus_0_11 ?_
  refine kq_ri (show b &&& (nI 3) = nI (kx3 b) from kx_and3 b) ?_
  refine kq_zald hx hb hzr1 (kx3_lt b) (by decide) rfl d_Mo_plus_0_12 ?_
  refine lv_if_ne hx hb d_Mo_plus_0_13 rfl (fun hc => ?_) (fun hc => ?_)
  · have hbn := kq_z_b1 hc
    refine lv_aload_n hx hb d_Mo_plus_0_36 rfl (lv_at hl 0 rfl) ?_
    refine lv_iload_n hx hb d_Mo_plus_0_37 rfl (lv_at hl 1 rfl) ?_
    refine kq_call (va_runV (As := [.int q]) (rest := []) ⟨hx, hb, hml, hown, hts⟩ (c_Mo_store l (ks_at E B1) A mo cZ (bs (kx3 a)) bs w1 H1 hE1 hA1 hG1 hF1 hW1 q) (cwV 1 hts (kt_inV kt_w585 kt_w582 kt_w584 kt_s21 kt_w5) rfl rfl rfl (by decide +kernel) ⟨Nat.le_of_ble_eq_true rfl, Nat.le_of_ble_eq_true rfl⟩) (kq_preV ((ks_KZ_st (ks_at E B1) A mo cZ)) (⟨hK1, hKZ.2⟩) (kq_recv hK hO1 rfl)) rfl rfl hl.1 rfl (lv_room (Nat.le_of_ble_eq_true rfl)) d_Mo_plus_0_38 ⟨Nat.zero_le _, Nat.zero_le _⟩) (fun v9 H9 L9 hq9 hL9 => ?_)
    obtain ⟨rfl, hX9⟩ := hq9
    refine W.eq (g2 := F0 m 41 ls []) rfl ?_
    obtain ⟨u9, hu9, b9, p9, n9, k9⟩ := kx_fin (k := kx3 q) (show kx_pt mo (bs (kx3 a)) w1 = kc_sum2 (bs (kx3 a)) (v (mo + 7 + kx3 a)) (v (mo + 12 + kx3 a)) (bs (kx3 b)) (v (mo + 7 + kx3 b)) (v (mo + 12 + kx3 b)) from by unfold kc_sum2; rw [if_pos hbn]; exact hp1) (kx3_lt q) o1
    rw [hu9] at hX9
    have hY9 := ks_X_trans hlk1 hX9
    refine W.vret hx hb hret (fun t ht _ => ⟨_, rfl, rfl, (bs (kx3 a)), u9, ?_, p9, n9, k9⟩) (t_lL (free := (fun x => x = mo ∨ x = mo + 7 + kx3 q ∨ x = mo + 12 + kx3 q ∨ x = mo + 16 ∨ ks_fr mo x)) hlc1 (fun x z => (by rcases hL9 x z with y | y | y; exact Or.inr (Or.inl y); exact Or.inr (Or.inr (Or.inl y)); exact Or.inr (Or.inr (Or.inr (Or.inl y)))))) d_Mo_plus_0_41
    rw [ht, ← b9]
    exact hY9
  · have hbn := kq_z_b0 hc
    have cx : w1 (mo + 7 + kx3 b) = v (mo + 7 + kx3 b) := o1 _ (by unfold ks_fr; omega)
    have cy : w1 (mo + 12 + kx3 b) = v (mo + 12 + kx3 b) := o1 _ (by unfold ks_fr; omega)
    have hlb := hlow (kx3 b) kb hbn
    refine lv_aload_n hx hb d_Mo_plus_0_16 rfl (lv_at hl 0 rfl) ?_
    refine lv_aload_n hx hb d_Mo_plus_0_17 rfl (lv_at hl 0 rfl) ?_
    refine kq_get hx hb hts kt_F_Mo hown hK hO1 rfl 1 (by decide) kt_w377 rfl d_Mo_plus_0_18 ?_
    refine lv_iload_n hx hb d_Mo_plus_0_21 rfl (lv_at hl 3 rfl) ?_
    refine lv_iconst (v := nI 3) hx hb d_Mo_plus_0_22 (by decide) ?_
    refine lv_iand hx hb d_Mo_plus_0_23 ?_
    refine kq_ri (show b &&& (nI 3) = nI (kx3 b) from kx_and3 b) ?_
    refine kq_aald hx hb (hax1) rfl (kx3_lt b) (by decide) (rfl) d_Mo_plus_0_24 ?_
    refine lv_aload_n hx hb d_Mo_plus_0_25 rfl (lv_at hl 0 rfl) ?_
    refine kq_get hx hb hts kt_F_Mo hown hK hO1 rfl 2 (by decide) kt_w378 rfl d_Mo_plus_0_26 ?_
    refine lv_iload_n hx hb d_Mo_plus_0_29 rfl (lv_at hl 3 rfl) ?_
    refine lv_iconst (v := nI 3) hx hb d_Mo_plus_0_30 (by decide) ?_
    refine lv_iand hx hb d_Mo_plus_0_31 ?_
    refine kq_ri (show b &&& (nI 3) = nI (kx3 b) from kx_and3 b) ?_
    refine kq_aald hx hb (hay1) rfl (kx3_lt b) (by decide) (rfl) d_Mo_plus_0_32 ?_
    refine kq_call (va_runV (As := [.ref (mo + 7 + kx3 b), .ref (mo + 12 + kx3 b)]) (rest := []) ⟨hx, hb, hml, hown, hts⟩ (c_Mo_more l (ks_at E B1) A mo cZ (bs (kx3 a)) bs w1 H1 hE1 hA1 hG1 hF1 hW1 (mo + 7 + kx3 b) (mo + 12 + kx3 b) (Or.inl hxo) (Or.inl hyo) (by omega) (by omega) (fun z => ⟨by rw [e26]; exact (hlow _ ka z).1, by rw [e27]; exact (hlow _ ka z).2, by rw [cx]; exact hlb.1, by rw [cy]; exact hlb.2⟩)) (cwV 2 hts (kt_inV kt_w574 kt_w571 kt_w573 kt_s19 kt_w5) rfl rfl rfl (by decide +kernel) ⟨Nat.le_of_ble_eq_true rfl, Nat.le_of_ble_eq_true rfl⟩) (kq_preV ((ks_KZ_st (ks_at E B1) A mo cZ)) (⟨hK1, hKZ.2⟩) (kq_recv hK hO1 rfl)) rfl rfl hl.1 rfl (lv_room (Nat.le_of_ble_eq_true rfl)) d_Mo_plus_0_33 ⟨Nat.zero_le _, Nat.zero_le _⟩) (fun v9 H2 L2 hq2 hL2 => ?_)
    obtain ⟨rfl, far2, w2, hX2, e2, k2⟩ := hq2
    refine W.eq (g2 := F0 m 36 ls []) rfl ?_
    have hlc2 := t_lL (free := (fun x => x = mo ∨ x = mo + 7 + kx3 q ∨ x = mo + 12 + kx3 q ∨ x = mo + 16 ∨ ks_fr mo x)) hlc1 (fun x z => (hL2 x z).elim Or.inl (fun y => Or.inr (Or.inr (Or.inr (Or.inr y)))))
    have hX2 := ks_X_trans hlk1 hX2
    obtain ⟨B2, hlk2, hW2, hF2⟩ := hX2
    have hE2 : ks_ok (ks_at E B2) := hE
    have hA2 : ks_A (ks_at E B2) A := hA
    have hG2 : ks_G (ks_at E B2) mo := hG
    have hK2 := ks_K_at hE hG hF hlk2 hKK
    have hO2 := ks_obj hW2 hF2.1.1 hF2.1.2.1
    have hN2 : H2[mo + 16]? = some (kq_B cZ bs) := (hW2.2.2.1 _ hF2.2.2.1).trans hF2.2.1
    have hzr2 : kq_r s .boolean H2 (mo + 16) 4 (fun j => .int (kq_z (bs j))) := kq_r.ofV hKZ.2 hN2
    have har2 := hK2.2.1.other (hW2.2.2.1 (mo + 1) hG.2.1)
    have hax2 := hK2.2.2.1.other (hW2.2.2.1 (mo + 6) hG.2.2.1)
    have hay2 := hK2.2.2.2.other (hW2.2.2.1 (mo + 11) hG.2.2.2)
    refine lv_aload_n hx hb d_Mo_plus_0_36 rfl (lv_at hl 0 rfl) ?_
    refine lv_iload_n hx hb d_Mo_plus_0_37 rfl (lv_at hl 1 rfl) ?_
    refine kq_call (va_runV (As := [.int q]) (rest := []) ⟨hx, hb, hml, hown, hts⟩ (c_Mo_store l (ks_at E B2) A mo cZ far2 bs w2 H2 hE2 hA2 hG2 hF2 hW2 q) (cwV 1 hts (kt_inV kt_w585 kt_w582 kt_w584 kt_s21 kt_w5) rfl rfl rfl (by decide +kernel) ⟨Nat.le_of_ble_eq_true rfl, Nat.le_of_ble_eq_true rfl⟩) (kq_preV ((ks_KZ_st (ks_at E B2) A mo cZ)) (⟨hK2, hKZ.2⟩) (kq_recv hK hO2 rfl)) rfl rfl hl.1 rfl (lv_room (Nat.le_of_ble_eq_true rfl)) d_Mo_plus_0_38 ⟨Nat.zero_le _, Nat.zero_le _⟩) (fun v9 H9 L9 hq9 hL9 => ?_)
    obtain ⟨rfl, hX9⟩ := hq9
    refine W.eq (g2 := F0 m 41 ls []) rfl ?_
    obtain ⟨u9, hu9, b9, p9, n9, k9⟩ := kx_fin (k := kx3 q) (show kx_pt mo far2 w2 = kc_sum2 (bs (kx3 a)) (v (mo + 7 + kx3 a)) (v (mo + 12 + kx3 a)) (bs (kx3 b)) (v (mo + 7 + kx3 b)) (v (mo + 12 + kx3 b)) from by unfold kc_sum2; rw [if_neg (by rw [hbn]; decide), e2, hp1, cx, cy]) (kx3_lt q) (fun x hx1 => (k2 x hx1).trans (o1 x hx1))
    rw [hu9] at hX9
    have hY9 := ks_X_trans hlk2 hX9
    refine W.vret hx hb hret (fun t ht _ => ⟨_, rfl, rfl, far2, u9, ?_, p9, n9, k9⟩) (t_lL (free := (fun x => x = mo ∨ x = mo + 7 + kx3 q ∨ x = mo + 12 + kx3 q ∨ x = mo + 16 ∨ ks_fr mo x)) hlc2 (fun x z => (by rcases hL9 x z with y | y | y; exact Or.inr (Or.inl y); exact Or.inr (Or.inr (Or.inl y)); exact Or.inr (Or.inr (Or.inr (Or.inl y)))))) d_Mo_plus_0_41
    rw [ht, ← b9]
    exact hY9
