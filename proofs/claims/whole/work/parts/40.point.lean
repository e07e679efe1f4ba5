/-! KeyCurveModel: point (own rows). -/
theorem d_Mo_point_0 : decode b_Mo_point 0 = .ok (.aload_n 0, 1) := by decide +kernel
theorem d_Mo_point_1 : decode b_Mo_point 1 = .ok (.getfield 9, 3) := by decide +kernel
theorem d_Mo_point_4 : decode b_Mo_point 4 = .ok (.iload_n 2, 1) := by decide +kernel
theorem d_Mo_point_5 : decode b_Mo_point 5 = .ok (.iconst 3, 1) := by decide +kernel
theorem d_Mo_point_6 : decode b_Mo_point 6 = .ok (.iand, 1) := by decide +kernel
theorem d_Mo_point_7 : decode b_Mo_point 7 = .ok (.aaload, 1) := by decide +kernel
theorem d_Mo_point_8 : decode b_Mo_point 8 = .ok (.astore 4, 2) := by decide +kernel
theorem d_Mo_point_10 : decode b_Mo_point 10 = .ok (.aload_n 0, 1) := by decide +kernel
theorem d_Mo_point_11 : decode b_Mo_point 11 = .ok (.getfield 9, 3) := by decide +kernel
theorem d_Mo_point_14 : decode b_Mo_point 14 = .ok (.iload_n 3, 1) := by decide +kernel
theorem d_Mo_point_15 : decode b_Mo_point 15 = .ok (.iconst 3, 1) := by decide +kernel
theorem d_Mo_point_16 : decode b_Mo_point 16 = .ok (.iand, 1) := by decide +kernel
theorem d_Mo_point_17 : decode b_Mo_point 17 = .ok (.aaload, 1) := by decide +kernel
theorem d_Mo_point_18 : decode b_Mo_point 18 = .ok (.astore 5, 2) := by decide +kernel
theorem d_Mo_point_20 : decode b_Mo_point 20 = .ok (.aload 4, 2) := by decide +kernel
theorem d_Mo_point_22 : decode b_Mo_point 22 = .ok (.getstatic 90, 3) := by decide +kernel
theorem d_Mo_point_25 : decode b_Mo_point 25 = .ok (.invokestatic 93, 3) := by decide +kernel
theorem d_Mo_point_28 : decode b_Mo_point 28 = .ok (.ifCond .ge 14, 3) := by decide +kernel
theorem d_Mo_point_31 : decode b_Mo_point 31 = .ok (.aload 5, 2) := by decide +kernel
theorem d_Mo_point_33 : decode b_Mo_point 33 = .ok (.getstatic 90, 3) := by decide +kernel
theorem d_Mo_point_36 : decode b_Mo_point 36 = .ok (.invokestatic 93, 3) := by decide +kernel
theorem d_Mo_point_39 : decode b_Mo_point 39 = .ok (.ifCond .lt 5, 3) := by decide +kernel
theorem d_Mo_point_42 : decode b_Mo_point 42 = .ok (.iconst 0, 1) := by decide +kernel
theorem d_Mo_point_43 : decode b_Mo_point 43 = .ok (.ireturn, 1) := by decide +kernel
theorem d_Mo_point_44 : decode b_Mo_point 44 = .ok (.aload_n 0, 1) := by decide +kernel
theorem d_Mo_point_45 : decode b_Mo_point 45 = .ok (.aload 4, 2) := by decide +kernel
theorem d_Mo_point_47 : decode b_Mo_point 47 = .ok (.invokevirtual 166, 3) := by decide +kernel
theorem d_Mo_point_50 : decode b_Mo_point 50 = .ok (.aload_n 0, 1) := by decide +kernel
theorem d_Mo_point_51 : decode b_Mo_point 51 = .ok (.aload_n 0, 1) := by decide +kernel
theorem d_Mo_point_52 : decode b_Mo_point 52 = .ok (.getfield 61, 3) := by decide +kernel
theorem d_Mo_point_55 : decode b_Mo_point 55 = .ok (.aload 5, 2) := by decide +kernel
theorem d_Mo_point_57 : decode b_Mo_point 57 = .ok (.aload 5, 2) := by decide +kernel
theorem d_Mo_point_59 : decode b_Mo_point 59 = .ok (.invokevirtual 125, 3) := by decide +kernel
theorem d_Mo_point_62 : decode b_Mo_point 62 = .ok (.aload_n 0, 1) := by decide +kernel
theorem d_Mo_point_63 : decode b_Mo_point 63 = .ok (.getfield 58, 3) := by decide +kernel
theorem d_Mo_point_66 : decode b_Mo_point 66 = .ok (.aload_n 0, 1) := by decide +kernel
theorem d_Mo_point_67 : decode b_Mo_point 67 = .ok (.getfield 61, 3) := by decide +kernel
theorem d_Mo_point_70 : decode b_Mo_point 70 = .ok (.invokestatic 93, 3) := by decide +kernel
theorem d_Mo_point_73 : decode b_Mo_point 73 = .ok (.ifCond .eq 5, 3) := by decide +kernel
theorem d_Mo_point_76 : decode b_Mo_point 76 = .ok (.iconst 0, 1) := by decide +kernel
theorem d_Mo_point_77 : decode b_Mo_point 77 = .ok (.ireturn, 1) := by decide +kernel
theorem d_Mo_point_78 : decode b_Mo_point 78 = .ok (.aload_n 0, 1) := by decide +kernel
theorem d_Mo_point_79 : decode b_Mo_point 79 = .ok (.iload_n 1, 1) := by decide +kernel
theorem d_Mo_point_80 : decode b_Mo_point 80 = .ok (.aload 4, 2) := by decide +kernel
theorem d_Mo_point_82 : decode b_Mo_point 82 = .ok (.aload 5, 2) := by decide +kernel
theorem d_Mo_point_84 : decode b_Mo_point 84 = .ok (.invokevirtual 162, 3) := by decide +kernel
theorem d_Mo_point_87 : decode b_Mo_point 87 = .ok (.iconst 1, 1) := by decide +kernel
theorem d_Mo_point_88 : decode b_Mo_point 88 = .ok (.ireturn, 1) := by decide +kernel
set_option maxHeartbeats 4000000 in
set_option maxRecDepth 100000 in
theorem c_Mo_point (l : Launch) (E : ks_E) (A : Nat → Nat) (mo : Nat) (cZ : ClassId) (far : Bool) (bs : Nat → Bool) (v : Nat → Nat) (H : Heap) (hE : ks_ok E) (hA : ks_A E A) (hG : ks_G E mo) (hF : ks_F E mo cZ far bs) (hW : ks_W E v H) (q a b : Int32) : Met l y_Mo_point w_Mo_point ({ frames := 5, cells := 0, slots := 0, locals := 115 }) (kq_P [.ref mo, .int q, .int a, .int b] H (ks_KZ E A mo cZ)) (kq_Q (fun o1 H1 => o1 = some (.int (kq_z (decide (v (mo + 2 + kx3 a) < kP ∧ v (mo + 2 + kx3 b) < kP ∧ v (mo + 2 + kx3 b) * v (mo + 2 + kx3 b) % kP = kc_sq (v (mo + 2 + kx3 a)))))) ∧ ∃ w : Nat → Nat, ks_X E mo cZ far (if (v (mo + 2 + kx3 a) < kP ∧ v (mo + 2 + kx3 b) < kP ∧ v (mo + 2 + kx3 b) * v (mo + 2 + kx3 b) % kP = kc_sq (v (mo + 2 + kx3 a))) then kx_ub bs (kx3 q) false else bs) w H1 ∧ w (mo + 7 + kx3 q) = (if (v (mo + 2 + kx3 a) < kP ∧ v (mo + 2 + kx3 b) < kP ∧ v (mo + 2 + kx3 b) * v (mo + 2 + kx3 b) % kP = kc_sq (v (mo + 2 + kx3 a))) then v (mo + 2 + kx3 a) else v (mo + 7 + kx3 q)) ∧ w (mo + 12 + kx3 q) = (if (v (mo + 2 + kx3 a) < kP ∧ v (mo + 2 + kx3 b) < kP ∧ v (mo + 2 + kx3 b) * v (mo + 2 + kx3 b) % kP = kc_sq (v (mo + 2 + kx3 a))) then v (mo + 2 + kx3 b) else v (mo + 12 + kx3 q)) ∧ ∀ x, x ≠ mo + 7 + kx3 q → x ≠ mo + 12 + kx3 q → ¬ ks_fr mo x → w x = v x)) 0 0 (fun x => x = mo + 7 + kx3 q ∨ x = mo + 12 + kx3 q ∨ x = mo + 16 ∨ ks_fr mo x) := by
  refine Met.ofW (cc := b_Mo_point) (maxL := 6) (ret := (some .boolean)) (by decide) rfl ?_
  intro p e s m args below meth c s₁ B0 hml hv
  obtain ⟨rfl, hH, hKZ⟩ := hv
  have hx := B0.exec
  have hb := B0.bytes
  have hret := B0.returns
  have hts := atoms_spec (ws := w_Mo_point) B0.pre
  have hown : s.vm.findClass R_Mo = some m.cls := findClass_of_methodNamed B0.named
  have hlocks := B0.notSynchronized
  rw [hH]
  have hl := lv_entry ([.ref mo, .int q, .int a, .int b]) (n := 6) (Nat.le_of_ble_eq_true rfl)
  rw [lg_entry_eq]
  generalize (lg_sl ([.ref mo, .int q, .int a, .int b]) ++ List.replicate (6 - (lg_sl ([.ref mo, .int q, .int a, .int b])).length) Slot.unset).toArray = ls at hl ⊢
  have hl : lv_has ls 6 [(0, .ref mo), (1, .int q), (2, .int a), (3, .int b)] := hl
  have hKK := hKZ.1
  have hC := hKK.1
  have hB := hC.1
  have hK := hB.1
  have hT := ks_T hE hB
  have hO := hF.1
  have hOo := ks_obj hW hO.1 hO.2.1
  have hNn : H[mo + 16]? = some (kq_B cZ bs) := (hW.2.2.1 _ hF.2.2.1).trans hF.2.1
  have hzr : kq_r s .boolean H (mo + 16) 4 (fun j => .int (kq_z (bs j))) := kq_r.ofV hKZ.2 hNn
  have har := hKK.2.1.other (hW.2.2.1 (mo + 1) hG.2.1)
  have hax := hKK.2.2.1.other (hW.2.2.1 (mo + 6) hG.2.2.1)
  have hay := hKK.2.2.2.other (hW.2.2.1 (mo + 11) hG.2.2.2)
  have kq := kx3_lt q
  have ka := kx3_lt a
  have kb := kx3_lt b
  have hao := (hG.1 (kx3 a) ka).1
  have hbo := (hG.1 (kx3 b) kb).1
  have sa := ks_src hE hW hB (Or.inl hao)
  have sb := ks_src hE hW hB (Or.inl hbo)
  have la := ks_lt hE hW (Or.inl hao)
  have lb := ks_lt hE hW (Or.inl hbo)
  have sP := ks_src hE hW hB (Or.inr hA.1.1)
  have lP := ks_lt hE hW (Or.inr hA.1.1)
  rw [ks_cst hW hA.1] at sP lP
  have h28 := hO.2.2.1 28 (by decide) (by decide) (by decide)
  have h29 := hO.2.2.1 29 (by decide) (by decide) (by decide)
  have hlc0 : ∀ x ∈ ([] : List Loc), x.base = mo + 7 + kx3 q ∨ x.base = mo + 12 + kx3 q ∨ x.base = mo + 16 ∨ ks_fr mo x.base := fun q h => by cases h
  refine lv_aload_n hx hb d_Mo_point_0 rfl (lv_at hl 0 rfl) ?_
  refine kq_get hx hb hts kt_F_Mo hown hK hOo rfl 0 (by decide) kt_w376 rfl d_Mo_point_1 ?_
  refine lv_iload_n hx hb d_Mo_point_4 rfl (lv_at hl 2 rfl) ?_
  refine lv_iconst (v := nI 3) hx hb d_Mo_point_5 (by decide) ?_
  refine lv_iand hx hb d_Mo_point_6 ?_
  refine kq_ri (show a &&& (nI 3) = nI (kx3 a) from kx_and3 a) ?_
  refine kq_aald hx hb (har) rfl (kx3_lt a) (by decide) (rfl) d_Mo_point_7 ?_
  refine lv_astore hx hb d_Mo_point_8 hl (by decide) rfl (fun ls hl => ?_)
  have hl : lv_has ls 6 [(4, .ref (mo + 2 + kx3 a)), (0, .ref mo), (1, .int q), (2, .int a), (3, .int b)] := hl
  refine lv_aload_n hx hb d_Mo_point_10 rfl (lv_at hl 1 rfl) ?_
  refine kq_get hx hb hts kt_F_Mo hown hK hOo rfl 0 (by decide) kt_w376 rfl d_Mo_point_11 ?_
  refine lv_iload_n hx hb d_Mo_point_14 rfl (lv_at hl 4 rfl) ?_
  refine lv_iconst (v := nI 3) hx hb d_Mo_point_15 (by decide) ?_
  refine lv_iand hx hb d_Mo_point_16 ?_
  refine kq_ri (show b &&& (nI 3) = nI (kx3 b) from kx_and3 b) ?_
  refine kq_aald hx hb (har) rfl (kx3_lt b) (by decide) (rfl) d_Mo_point_17 ?_
  refine lv_astore hx hb d_Mo_point_18 hl (by decide) rfl (fun ls hl => ?_)
  have hl : lv_has ls 6 [(5, .ref (mo + 2 + kx3 b)), (4, .ref (mo + 2 + kx3 a)), (0, .ref mo), (1, .int q), (2, .int a), (3, .int b)] := hl
  refine lv_aload hx hb d_Mo_point_20 (lv_at hl 1 rfl) ?_
  refine kq_gets hx hb hts (ks_zat hW hC.2.1) hown kt_w453 d_Mo_point_22 ?_
  refine kq_call (va_runS (As := [.ref (mo + 2 + kx3 a), .ref (A 0)]) (rest := []) ⟨hx, hb, hml, hown, hts⟩ (c_Mo_compare l H (mo + 2 + kx3 a) (A 0) (v (mo + 2 + kx3 a)) kP la lP) (va_cwS 2 hts (kt_inS kt_w465 kt_w463 kt_w464 kt_w5) rfl rfl rfl (by decide +kernel) ⟨Nat.le_of_ble_eq_true rfl, Nat.le_of_ble_eq_true rfl⟩) (kq_preS (kq_st_r.both kq_st_r) (⟨sa, sP⟩)) rfl rfl hl.1 rfl (lv_room (Nat.le_of_ble_eq_true rfl)) d_Mo_point_25 ⟨Nat.zero_le _, Nat.zero_le _⟩) (fun v9 H9 L1 hq9 hL1 => ?_)
  obtain ⟨rfl, e9⟩ := hq9
  rw [e9]
  clear e9
  refine W.eq (g2 := F0 m 28 ls [.int (kx_cmp (v (mo + 2 + kx3 a)) kP)]) rfl ?_
  have hlc1 := t_lL (free := (fun x => x = mo + 7 + kx3 q ∨ x = mo + 12 + kx3 q ∨ x = mo + 16 ∨ ks_fr mo x)) hlc0 (fun q z => (hL1 q z).elim)
  refine lv_if_ge hx hb d_Mo_point_28 rfl (fun h1 => ?_) (fun h1 => ?_)
  · have hp : ¬ (v (mo + 2 + kx3 a) < kP ∧ v (mo + 2 + kx3 b) < kP ∧ v (mo + 2 + kx3 b) * v (mo + 2 + kx3 b) % kP = kc_sq (v (mo + 2 + kx3 a))) := fun z => by have := kx_cmp_ge.mp h1; omega
    refine lv_iconst (v := nI 0) hx hb d_Mo_point_42 (by decide) ?_
    exact W.zret hx hb hret rfl (fun t ht _ => ⟨_, rfl, by rw [kq_z_f hp], v, by rw [ht, if_neg hp]; exact ks_X_self hW hF, by rw [if_neg hp], by rw [if_neg hp], fun _ _ _ _ => rfl⟩) hlc1 d_Mo_point_43
  · have g1 : v (mo + 2 + kx3 a) < kP := Nat.lt_of_not_le (fun z => h1 (kx_cmp_ge.mpr z))
    refine lv_aload hx hb d_Mo_point_31 (lv_at hl 0 rfl) ?_
    refine kq_gets hx hb hts (ks_zat hW hC.2.1) hown kt_w453 d_Mo_point_33 ?_
    refine kq_call (va_runS (As := [.ref (mo + 2 + kx3 b), .ref (A 0)]) (rest := []) ⟨hx, hb, hml, hown, hts⟩ (c_Mo_compare l H (mo + 2 + kx3 b) (A 0) (v (mo + 2 + kx3 b)) kP lb lP) (va_cwS 2 hts (kt_inS kt_w465 kt_w463 kt_w464 kt_w5) rfl rfl rfl (by decide +kernel) ⟨Nat.le_of_ble_eq_true rfl, Nat.le_of_ble_eq_true rfl⟩) (kq_preS (kq_st_r.both kq_st_r) (⟨sb, sP⟩)) rfl rfl hl.1 rfl (lv_room (Nat.le_of_ble_eq_true rfl)) d_Mo_point_36 ⟨Nat.zero_le _, Nat.zero_le _⟩) (fun v9 H9 L2 hq9 hL2 => ?_)
    obtain ⟨rfl, e9⟩ := hq9
    rw [e9]
    clear e9
    refine W.eq (g2 := F0 m 39 ls [.int (kx_cmp (v (mo + 2 + kx3 b)) kP)]) rfl ?_
    have hlc2 := t_lL (free := (fun x => x = mo + 7 + kx3 q ∨ x = mo + 12 + kx3 q ∨ x = mo + 16 ∨ ks_fr mo x)) hlc1 (fun q z => (hL2 q z).elim)
    refine lv_if_lt hx hb d_Mo_point_39 rfl (fun h2 => ?_) (fun h2 => ?_)
    · have g2 := kx_cmp_lt.mp h2
      refine lv_aload_n hx hb d_Mo_point_44 rfl (lv_at hl 2 rfl) ?_
      refine lv_aload hx hb d_Mo_point_45 (lv_at hl 1 rfl) ?_
      refine kq_call (va_runV (As := [.ref (mo + 2 + kx3 a)]) (rest := []) ⟨hx, hb, hml, hown, hts⟩ (c_Mo_square l E A mo far v H hE hA hO hW (mo + 2 + kx3 a) (Or.inl hao) (by omega) (by omega)) (cwV 1 hts (kt_inV kt_w555 kt_w552 kt_w554 kt_s17 kt_w5) rfl rfl rfl (by decide +kernel) ⟨Nat.le_of_ble_eq_true rfl, Nat.le_of_ble_eq_true rfl⟩) (kq_preV ((ks_C_st E A)) (hC) (kq_recv hK hOo rfl)) rfl rfl hl.1 rfl (lv_room (Nat.le_of_ble_eq_true rfl)) d_Mo_point_47 ⟨Nat.zero_le _, Nat.zero_le _⟩) (fun v9 H3 L3 hq3 hL3 => ?_)
      obtain ⟨rfl, w3, hW3, e3, o3⟩ := hq3
      refine W.eq (g2 := F0 m 50 ls []) rfl ?_
      have hO3 := ks_obj hW3 hO.1 hO.2.1
      have hlc3 := t_lL (free := (fun x => x = mo + 7 + kx3 q ∨ x = mo + 12 + kx3 q ∨ x = mo + 16 ∨ ks_fr mo x)) hlc2 (fun q z => Or.inr (Or.inr (Or.inr (by rcases hL3 q z with y | y | y <;> (rw [y]; unfold ks_fr; omega)))))
      refine lv_aload_n hx hb d_Mo_point_50 rfl (lv_at hl 2 rfl) ?_
      refine lv_aload_n hx hb d_Mo_point_51 rfl (lv_at hl 2 rfl) ?_
      refine kq_get hx hb hts kt_F_Mo hown hK hO3 rfl 16 (by decide) kt_w392 rfl d_Mo_point_52 ?_
      refine lv_aload hx hb d_Mo_point_55 (lv_at hl 0 rfl) ?_
      refine lv_aload hx hb d_Mo_point_57 (lv_at hl 0 rfl) ?_
      refine kq_call (va_runV (As := [.ref (mo + 29), .ref (mo + 2 + kx3 b), .ref (mo + 2 + kx3 b)]) (rest := []) ⟨hx, hb, hml, hown, hts⟩ (c_Mo_times_1 l E A mo far w3 H3 hE hA hO hW3 (mo + 29) (mo + 2 + kx3 b) (mo + 2 + kx3 b) h29 (Or.inl hbo) (Or.inl hbo)) (cwV 3 hts (kt_inV kt_w499 kt_w496 kt_w498 kt_s13 kt_w5) rfl rfl rfl (by decide +kernel) ⟨Nat.le_of_ble_eq_true rfl, Nat.le_of_ble_eq_true rfl⟩) (kq_preV ((ks_C_st E A)) (hC) (kq_recv hK hO3 rfl)) rfl rfl hl.1 rfl (lv_room (Nat.le_of_ble_eq_true rfl)) d_Mo_point_59 ⟨Nat.zero_le _, Nat.zero_le _⟩) (fun v9 H4 L4 hq4 hL4 => ?_)
      obtain ⟨rfl, w4, hW4, e4, o4⟩ := hq4
      refine W.eq (g2 := F0 m 62 ls []) rfl ?_
      have hO4 := ks_obj hW4 hO.1 hO.2.1
      have hlc4 := t_lL (free := (fun x => x = mo + 7 + kx3 q ∨ x = mo + 12 + kx3 q ∨ x = mo + 16 ∨ ks_fr mo x)) hlc3 (fun q z => Or.inr (Or.inr (Or.inr (by rcases hL4 q z with y | y <;> (rw [y]; unfold ks_fr; omega)))))
      have k4 : ∀ x, ¬ ks_fr mo x → w4 x = v x := fun x hx0 => by rw [o4 x (by unfold ks_fr at hx0; omega) (by unfold ks_fr at hx0; omega), o3 x (by unfold ks_fr at hx0; omega) (by unfold ks_fr at hx0; omega) (by unfold ks_fr at hx0; omega)]
      have g28 : w4 (mo + 28) = kc_sq (v (mo + 2 + kx3 a)) := by rw [o4 (mo + 28) (by omega) (by omega), e3]
      have g29 : w4 (mo + 29) = v (mo + 2 + kx3 b) * v (mo + 2 + kx3 b) % kP := by rw [e4, o3 (mo + 2 + kx3 b) (by omega) (by omega) (by omega)]
      have s28 := ks_src hE hW4 hB (Or.inl h28)
      have s29 := ks_src hE hW4 hB (Or.inl h29)
      have b28 := ks_lt hE hW4 (Or.inl h28)
      have b29 := ks_lt hE hW4 (Or.inl h29)
      rw [g28] at s28 b28
      rw [g29] at s29 b29
      refine lv_aload_n hx hb d_Mo_point_62 rfl (lv_at hl 2 rfl) ?_
      refine kq_get hx hb hts kt_F_Mo hown hK hO4 rfl 15 (by decide) kt_w391 rfl d_Mo_point_63 ?_
      refine lv_aload_n hx hb d_Mo_point_66 rfl (lv_at hl 2 rfl) ?_
      refine kq_get hx hb hts kt_F_Mo hown hK hO4 rfl 16 (by decide) kt_w392 rfl d_Mo_point_67 ?_
      refine kq_call (va_runS (As := [.ref (mo + 28), .ref (mo + 29)]) (rest := []) ⟨hx, hb, hml, hown, hts⟩ (c_Mo_compare l H4 (mo + 28) (mo + 29) (kc_sq (v (mo + 2 + kx3 a))) (v (mo + 2 + kx3 b) * v (mo + 2 + kx3 b) % kP) b28 b29) (va_cwS 2 hts (kt_inS kt_w465 kt_w463 kt_w464 kt_w5) rfl rfl rfl (by decide +kernel) ⟨Nat.le_of_ble_eq_true rfl, Nat.le_of_ble_eq_true rfl⟩) (kq_preS (kq_st_r.both kq_st_r) (⟨s28, s29⟩)) rfl rfl hl.1 rfl (lv_room (Nat.le_of_ble_eq_true rfl)) d_Mo_point_70 ⟨Nat.zero_le _, Nat.zero_le _⟩) (fun v9 H9 L5 hq9 hL5 => ?_)
      obtain ⟨rfl, e9⟩ := hq9
      rw [e9]
      clear e9
      refine W.eq (g2 := F0 m 73 ls [.int (kx_cmp (kc_sq (v (mo + 2 + kx3 a))) (v (mo + 2 + kx3 b) * v (mo + 2 + kx3 b) % kP))]) rfl ?_
      have hlc5 := t_lL (free := (fun x => x = mo + 7 + kx3 q ∨ x = mo + 12 + kx3 q ∨ x = mo + 16 ∨ ks_fr mo x)) hlc4 (fun q z => (hL5 q z).elim)
      refine lv_if_eq hx hb d_Mo_point_73 rfl (fun h3 => ?_) (fun h3 => ?_)
      · have hp : (v (mo + 2 + kx3 a) < kP ∧ v (mo + 2 + kx3 b) < kP ∧ v (mo + 2 + kx3 b) * v (mo + 2 + kx3 b) % kP = kc_sq (v (mo + 2 + kx3 a))) := ⟨g1, g2, (kx_cmp_0.mp h3).symm⟩
        refine lv_aload_n hx hb d_Mo_point_78 rfl (lv_at hl 2 rfl) ?_
        refine lv_iload_n hx hb d_Mo_point_79 rfl (lv_at hl 3 rfl) ?_
        refine lv_aload hx hb d_Mo_point_80 (lv_at hl 1 rfl) ?_
        refine lv_aload hx hb d_Mo_point_82 (lv_at hl 0 rfl) ?_
        refine kq_call (va_runV (As := [.int q, .ref (mo + 2 + kx3 a), .ref (mo + 2 + kx3 b)]) (rest := []) ⟨hx, hb, hml, hown, hts⟩ (c_Mo_keep l E A mo cZ far bs w4 H4 hE hA hG hF hW4 q (mo + 2 + kx3 a) (mo + 2 + kx3 b) (Or.inl hao) (Or.inl hbo) (by omega)) (cwV 3 hts (kt_inV kt_w543 kt_w540 kt_w542 kt_s16 kt_w5) rfl rfl rfl (by decide +kernel) ⟨Nat.le_of_ble_eq_true rfl, Nat.le_of_ble_eq_true rfl⟩) (kq_preV ((ks_KZ_st E A mo cZ)) (hKZ) (kq_recv hK hO4 rfl)) rfl rfl hl.1 rfl (lv_room (Nat.le_of_ble_eq_true rfl)) d_Mo_point_84 ⟨Nat.zero_le _, Nat.zero_le _⟩) (fun v9 H6 L6 hq6 hL6 => ?_)
        obtain ⟨rfl, hX6⟩ := hq6
        refine W.eq (g2 := F0 m 87 ls []) rfl ?_
        have hlc6 := t_lL (free := (fun x => x = mo + 7 + kx3 q ∨ x = mo + 12 + kx3 q ∨ x = mo + 16 ∨ ks_fr mo x)) hlc5 (fun q z => by rcases hL6 q z with y | y | y; exact Or.inl y; exact Or.inr (Or.inl y); exact Or.inr (Or.inr (Or.inl y)))
        refine lv_iconst (v := nI 1) hx hb d_Mo_point_87 (by decide) ?_
        refine W.zret hx hb hret rfl (fun t ht _ => ⟨_, rfl, by rw [kq_z_t hp], _, by rw [ht, if_pos hp]; exact hX6, ?_, ?_, fun x x1 x2 x3 => ?_⟩) hlc6 d_Mo_point_88
        · rw [if_pos hp, kq_up_ne (by omega), kq_up_at]
          exact k4 _ (by unfold ks_fr; omega)
        · rw [if_pos hp, kq_up_at]
          exact k4 _ (by unfold ks_fr; omega)
        · rw [kq_up_ne x2, kq_up_ne x1]
          exact k4 x x3
      · have hp : ¬ (v (mo + 2 + kx3 a) < kP ∧ v (mo + 2 + kx3 b) < kP ∧ v (mo + 2 + kx3 b) * v (mo + 2 + kx3 b) % kP = kc_sq (v (mo + 2 + kx3 a))) := fun z => h3 (kx_cmp_0.mpr z.2.2.symm)
        refine lv_iconst (v := nI 0) hx hb d_Mo_point_76 (by decide) ?_
        exact W.zret hx hb hret rfl (fun t ht _ => ⟨_, rfl, by rw [kq_z_f hp], w4, by rw [ht, if_neg hp]; exact ks_X_self hW4 hF, by rw [if_neg hp]; exact k4 _ (by unfold ks_fr; omega), by rw [if_neg hp]; exact k4 _ (by unfold ks_fr; omega), fun x _ _ x3 => k4 x x3⟩) hlc5 d_Mo_point_77
    · have hp : ¬ (v (mo + 2 + kx3 a) < kP ∧ v (mo + 2 + kx3 b) < kP ∧ v (mo + 2 + kx3 b) * v (mo + 2 + kx3 b) % kP = kc_sq (v (mo + 2 + kx3 a))) := fun z => h2 (kx_cmp_lt.mpr z.2.1)
      refine lv_iconst (v := nI 0) hx hb d_Mo_point_42 (by decide) ?_
      exact W.zret hx hb hret rfl (fun t ht _ => ⟨_, rfl, by rw [kq_z_f hp], v, by rw [ht, if_neg hp]; exact ks_X_self hW hF, by rw [if_neg hp], by rw [if_neg hp], fun _ _ _ _ => rfl⟩) hlc2 d_Mo_point_43
