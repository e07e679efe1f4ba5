/-! KeyCurveModel: lift (own rows). -/
theorem kx_difP {y : Nat} (h0 : 0 < y) (hy : y < kP) : kp_dif kP kP y = kP - y := by
  unfold kp_dif
  rw [Nat.mod_eq_of_lt hy, Nat.add_mod_left, Nat.mod_eq_of_lt (by omega)]
theorem kx_root_pos {x : Nat} (h : kc_root (kc_sq x) * kc_root (kc_sq x) % kP = kc_sq x % kP) : 0 < kc_even (kc_root (kc_sq x)) ∧ kc_even (kc_root (kc_sq x)) < kP := by
  have hy : kc_root (kc_sq x) < kP := Nat.mod_lt _ (by decide)
  have h0 : kc_root (kc_sq x) ≠ 0 := by
    intro e
    rw [e, Nat.mul_zero, Nat.zero_mod] at h
    unfold kc_sq at h
    rw [Nat.mod_mod, Nat.mod_add_mod] at h
    have e2 : (x * x % kP * x + 7) % kP = (x * x * x + 7) % kP := by
      rw [Nat.add_mod, Nat.mod_mul_mod, ← Nat.add_mod]
    rw [e2] at h
    exact kf_no_cube x h.symm
  generalize kc_root (kc_sq x) = y at *
  unfold kc_even
  split
  · rw [kx_difP (by omega) hy]
    omega
  · omega
theorem d_Mo_lift_0 : decode b_Mo_lift 0 = .ok (.aload_n 0, 1) := by decide +kernel
theorem d_Mo_lift_1 : decode b_Mo_lift 1 = .ok (.getfield 9, 3) := by decide +kernel
theorem d_Mo_lift_4 : decode b_Mo_lift 4 = .ok (.iload_n 2, 1) := by decide +kernel
theorem d_Mo_lift_5 : decode b_Mo_lift 5 = .ok (.iconst 3, 1) := by decide +kernel
theorem d_Mo_lift_6 : decode b_Mo_lift 6 = .ok (.iand, 1) := by decide +kernel
theorem d_Mo_lift_7 : decode b_Mo_lift 7 = .ok (.aaload, 1) := by decide +kernel
theorem d_Mo_lift_8 : decode b_Mo_lift 8 = .ok (.astore 4, 2) := by decide +kernel
theorem d_Mo_lift_10 : decode b_Mo_lift 10 = .ok (.aload 4, 2) := by decide +kernel
theorem d_Mo_lift_12 : decode b_Mo_lift 12 = .ok (.getstatic 90, 3) := by decide +kernel
theorem d_Mo_lift_15 : decode b_Mo_lift 15 = .ok (.invokestatic 93, 3) := by decide +kernel
theorem d_Mo_lift_18 : decode b_Mo_lift 18 = .ok (.ifCond .lt 5, 3) := by decide +kernel
theorem d_Mo_lift_21 : decode b_Mo_lift 21 = .ok (.iconst 0, 1) := by decide +kernel
theorem d_Mo_lift_22 : decode b_Mo_lift 22 = .ok (.ireturn, 1) := by decide +kernel
theorem d_Mo_lift_23 : decode b_Mo_lift 23 = .ok (.aload_n 0, 1) := by decide +kernel
theorem d_Mo_lift_24 : decode b_Mo_lift 24 = .ok (.aload 4, 2) := by decide +kernel
theorem d_Mo_lift_26 : decode b_Mo_lift 26 = .ok (.invokevirtual 166, 3) := by decide +kernel
theorem d_Mo_lift_29 : decode b_Mo_lift 29 = .ok (.aload_n 0, 1) := by decide +kernel
theorem d_Mo_lift_30 : decode b_Mo_lift 30 = .ok (.aload_n 0, 1) := by decide +kernel
theorem d_Mo_lift_31 : decode b_Mo_lift 31 = .ok (.getfield 61, 3) := by decide +kernel
theorem d_Mo_lift_34 : decode b_Mo_lift 34 = .ok (.aload_n 0, 1) := by decide +kernel
theorem d_Mo_lift_35 : decode b_Mo_lift 35 = .ok (.getfield 58, 3) := by decide +kernel
theorem d_Mo_lift_38 : decode b_Mo_lift 38 = .ok (.invokevirtual 152, 3) := by decide +kernel
theorem d_Mo_lift_41 : decode b_Mo_lift 41 = .ok (.ifCond .eq 17, 3) := by decide +kernel
theorem d_Mo_lift_44 : decode b_Mo_lift 44 = .ok (.iload_n 3, 1) := by decide +kernel
theorem d_Mo_lift_45 : decode b_Mo_lift 45 = .ok (.ifCond .eq 15, 3) := by decide +kernel
theorem d_Mo_lift_48 : decode b_Mo_lift 48 = .ok (.aload_n 0, 1) := by decide +kernel
theorem d_Mo_lift_49 : decode b_Mo_lift 49 = .ok (.getfield 61, 3) := by decide +kernel
theorem d_Mo_lift_52 : decode b_Mo_lift 52 = .ok (.invokestatic 122, 3) := by decide +kernel
theorem d_Mo_lift_55 : decode b_Mo_lift 55 = .ok (.ifCond .eq 5, 3) := by decide +kernel
theorem d_Mo_lift_58 : decode b_Mo_lift 58 = .ok (.iconst 0, 1) := by decide +kernel
theorem d_Mo_lift_59 : decode b_Mo_lift 59 = .ok (.ireturn, 1) := by decide +kernel
theorem d_Mo_lift_60 : decode b_Mo_lift 60 = .ok (.iload_n 3, 1) := by decide +kernel
theorem d_Mo_lift_61 : decode b_Mo_lift 61 = .ok (.ifCond .eq 18, 3) := by decide +kernel
theorem d_Mo_lift_64 : decode b_Mo_lift 64 = .ok (.aload_n 0, 1) := by decide +kernel
theorem d_Mo_lift_65 : decode b_Mo_lift 65 = .ok (.getfield 61, 3) := by decide +kernel
theorem d_Mo_lift_68 : decode b_Mo_lift 68 = .ok (.getstatic 90, 3) := by decide +kernel
theorem d_Mo_lift_71 : decode b_Mo_lift 71 = .ok (.aload_n 0, 1) := by decide +kernel
theorem d_Mo_lift_72 : decode b_Mo_lift 72 = .ok (.getfield 61, 3) := by decide +kernel
theorem d_Mo_lift_75 : decode b_Mo_lift 75 = .ok (.invokestatic 97, 3) := by decide +kernel
theorem d_Mo_lift_78 : decode b_Mo_lift 78 = .ok (.pop, 1) := by decide +kernel
theorem d_Mo_lift_79 : decode b_Mo_lift 79 = .ok (.aload_n 0, 1) := by decide +kernel
theorem d_Mo_lift_80 : decode b_Mo_lift 80 = .ok (.iload_n 1, 1) := by decide +kernel
theorem d_Mo_lift_81 : decode b_Mo_lift 81 = .ok (.aload 4, 2) := by decide +kernel
theorem d_Mo_lift_83 : decode b_Mo_lift 83 = .ok (.aload_n 0, 1) := by decide +kernel
theorem d_Mo_lift_84 : decode b_Mo_lift 84 = .ok (.getfield 61, 3) := by decide +kernel
theorem d_Mo_lift_87 : decode b_Mo_lift 87 = .ok (.invokevirtual 162, 3) := by decide +kernel
theorem d_Mo_lift_90 : decode b_Mo_lift 90 = .ok (.iconst 1, 1) := by decide +kernel
theorem d_Mo_lift_91 : decode b_Mo_lift 91 = .ok (.ireturn, 1) := by decide +kernel
set_option maxHeartbeats 4000000 in
set_option maxRecDepth 100000 in
theorem c_Mo_lift (l : Launch) (E : ks_E) (A : Nat → Nat) (mo : Nat) (cZ : ClassId) (far : Bool) (bs : Nat → Bool) (v : Nat → Nat) (H : Heap) (hE : ks_ok E) (hA : ks_A E A) (hG : ks_G E mo) (hF : ks_F E mo cZ far bs) (hW : ks_W E v H) (q a : Int32) (d : Bool) : Met l y_Mo_lift w_Mo_lift ({ frames := 5, cells := 0, slots := 0, locals := 115 }) (kq_P [.ref mo, .int q, .int a, .int (kq_z d)] H (ks_KZ E A mo cZ)) (kq_Q (fun o1 H1 => o1 = some (.int (kq_z (kc_hasb (v (mo + 2 + kx3 a))))) ∧ ∃ w : Nat → Nat, ks_X E mo cZ far (if (kc_hasb (v (mo + 2 + kx3 a)) = true) then kx_ub bs (kx3 q) false else bs) w H1 ∧ w (mo + 7 + kx3 q) = (if (kc_hasb (v (mo + 2 + kx3 a)) = true) then v (mo + 2 + kx3 a) else v (mo + 7 + kx3 q)) ∧ w (mo + 12 + kx3 q) = (if (kc_hasb (v (mo + 2 + kx3 a)) = true) then kc_y (v (mo + 2 + kx3 a)) d else v (mo + 12 + kx3 q)) ∧ ∀ x, x ≠ mo + 7 + kx3 q → x ≠ mo + 12 + kx3 q → ¬ ks_fr mo x → w x = v x)) 0 0 (fun x => x = mo + 7 + kx3 q ∨ x = mo + 12 + kx3 q ∨ x = mo + 16 ∨ ks_fr mo x) := by
  refine Met.ofW (cc := b_Mo_lift) (maxL := 5) (ret := (some .boolean)) (by decide) rfl ?_
  intro p e s m args below meth c s₁ B0 hml hv
  obtain ⟨rfl, hH, hKZ⟩ := hv
  have hx := B0.exec
  have hb := B0.bytes
  have hret := B0.returns
  have hts := atoms_spec (ws := w_Mo_lift) B0.pre
  have hown : s.vm.findClass R_Mo = some m.cls := findClass_of_methodNamed B0.named
  have hlocks := B0.notSynchronized
  rw [hH]
  have hl := lv_entry ([.ref mo, .int q, .int a, .int (kq_z d)]) (n := 5) (Nat.le_of_ble_eq_true rfl)
  rw [lg_entry_eq]
  generalize (lg_sl ([.ref mo, .int q, .int a, .int (kq_z d)]) ++ List.replicate (5 - (lg_sl ([.ref mo, .int q, .int a, .int (kq_z d)])).length) Slot.unset).toArray = ls at hl ⊢
  have hl : lv_has ls 5 [(0, .ref mo), (1, .int q), (2, .int a), (3, .int (kq_z d))] := hl
  have hKK := hKZ.1
  have hC := hKK.1
  have hB := hC.1
  have hK := hB.1
  have hT := ks_T hE hB
  have hO := hF.1
  have hOo := ks_obj hW hO.1 hO.2.1
  have hNn : H[mo + 16]? = some (kq_B cZ bs) := (hW.2.2.1 _ hF.2.2.1).trans hF.2.1
  have hzr : kq_r s .boolean H (mo + 16) 4 (fun j => .int (kq_z (bs j))) := kq_r.ofV hKZ.2 hNn
  have har := hKK.2.1.other (hW.2.2.1 (mo + 1) hG.2.1)
  have hax := hKK.2.2.1.other (hW.2.2.1 (mo + 6) hG.2.2.1)
  have hay := hKK.2.2.2.other (hW.2.2.1 (mo + 11) hG.2.2.2)
  have kq := kx3_lt q
  have ka := kx3_lt a
  have hao := (hG.1 (kx3 a) ka).1
  have sa := ks_src hE hW hB (Or.inl hao)
  have la := ks_lt hE hW (Or.inl hao)
  have sP := ks_src hE hW hB (Or.inr hA.1.1)
  have lP := ks_lt hE hW (Or.inr hA.1.1)
  rw [ks_cst hW hA.1] at sP lP
  have h28 := hO.2.2.1 28 (by decide) (by decide) (by decide)
  have h29 := hO.2.2.1 29 (by decide) (by decide) (by decide)
  have hlc0 : ∀ x ∈ ([] : List Loc), x.base = mo + 7 + kx3 q ∨ x.base = mo + 12 + kx3 q ∨ x.base = mo + 16 ∨ ks_fr mo x.base := fun q h => by cases h
  refine lv_aload_n hx hb d_Mo_lift_0 rfl (lv_at hl 0 rfl) ?_
  refine kq_get hx hb hts kt_F_Mo hown hK hOo rfl 0 (by decide) kt_w376 rfl d_Mo_lift_1 ?_
  refine lv_iload_n hx hb d_Mo_lift_4 rfl (lv_at hl 2 rfl) ?_
  refine lv_iconst (v := nI 3) hx hb d_Mo_lift_5 (by decide) ?_
  refine lv_iand hx hb d_Mo_lift_6 ?_
  refine kq_ri (show a &&& (nI 3) = nI (kx3 a) from kx_and3 a) ?_
  refine kq_aald hx hb (har) rfl (kx3_lt a) (by decide) (rfl) d_Mo_lift_7 ?_
  refine lv_astore hx hb d_Mo_lift_8 hl (by decide) rfl (fun ls hl => ?_)
  have hl : lv_has ls 5 [(4, .ref (mo + 2 + kx3 a)), (0, .ref mo), (1, .int q), (2, .int a), (3, .int (kq_z d))] := hl
  refine lv_aload hx hb d_Mo_lift_10 (lv_at hl 0 rfl) ?_
  refine kq_gets hx hb hts (ks_zat hW hC.2.1) hown kt_w453 d_Mo_lift_12 ?_
  refine kq_call (va_runS (As := [.ref (mo + 2 + kx3 a), .ref (A 0)]) (rest := []) ⟨hx, hb, hml, hown, hts⟩ (c_Mo_compare l H (mo + 2 + kx3 a) (A 0) (v (mo + 2 + kx3 a)) kP la lP) (va_cwS 2 hts (kt_inS kt_w465 kt_w463 kt_w464 kt_w5) rfl rfl rfl (by decide +kernel) ⟨Nat.le_of_ble_eq_true rfl, Nat.le_of_ble_eq_true rfl⟩) (kq_preS (kq_st_r.both kq_st_r) (⟨sa, sP⟩)) rfl rfl hl.1 rfl (lv_room (Nat.le_of_ble_eq_true rfl)) d_Mo_lift_15 ⟨Nat.zero_le _, Nat.zero_le _⟩) (fun v9 H9 L1 hq9 hL1 => ?_)
  obtain ⟨rfl, e9⟩ := hq9
  rw [e9]
  clear e9
  refine W.eq (g2 := F0 m 18 ls [.int (kx_cmp (v (mo + 2 + kx3 a)) kP)]) rfl ?_
  have hlc1 := t_lL (free := (fun x => x = mo + 7 + kx3 q ∨ x = mo + 12 + kx3 q ∨ x = mo + 16 ∨ ks_fr mo x)) hlc0 (fun q z => (hL1 q z).elim)
  refine lv_if_lt hx hb d_Mo_lift_18 rfl (fun h1 => ?_) (fun h1 => ?_)
  · have g1 := kx_cmp_lt.mp h1
    refine lv_aload_n hx hb d_Mo_lift_23 rfl (lv_at hl 1 rfl) ?_
    refine lv_aload hx hb d_Mo_lift_24 (lv_at hl 0 rfl) ?_
    refine kq_call (va_runV (As := [.ref (mo + 2 + kx3 a)]) (rest := []) ⟨hx, hb, hml, hown, hts⟩ (c_Mo_square l E A mo far v H hE hA hO hW (mo + 2 + kx3 a) (Or.inl hao) (by omega) (by omega)) (cwV 1 hts (kt_inV kt_w555 kt_w552 kt_w554 kt_s17 kt_w5) rfl rfl rfl (by decide +kernel) ⟨Nat.le_of_ble_eq_true rfl, Nat.le_of_ble_eq_true rfl⟩) (kq_preV ((ks_C_st E A)) (hC) (kq_recv hK hOo rfl)) rfl rfl hl.1 rfl (lv_room (Nat.le_of_ble_eq_true rfl)) d_Mo_lift_26 ⟨Nat.zero_le _, Nat.zero_le _⟩) (fun v9 H3 L3 hq3 hL3 => ?_)
    obtain ⟨rfl, w3, hW3, e3, o3⟩ := hq3
    refine W.eq (g2 := F0 m 29 ls []) rfl ?_
    have hO3 := ks_obj hW3 hO.1 hO.2.1
    have hlc2 := t_lL (free := (fun x => x = mo + 7 + kx3 q ∨ x = mo + 12 + kx3 q ∨ x = mo + 16 ∨ ks_fr mo x)) hlc1 (fun q z => Or.inr (Or.inr (Or.inr (by rcases hL3 q z with y | y | y <;> (rw [y]; unfold ks_fr; omega)))))
    have l28 : w3 (mo + 28) < kP := by rw [e3]; exact Nat.mod_lt _ (by decide)
    refine lv_aload_n hx hb d_Mo_lift_29 rfl (lv_at hl 1 rfl) ?_
    refine lv_aload_n hx hb d_Mo_lift_30 rfl (lv_at hl 1 rfl) ?_
    refine kq_get hx hb hts kt_F_Mo hown hK hO3 rfl 16 (by decide) kt_w392 rfl d_Mo_lift_31 ?_
    refine lv_aload_n hx hb d_Mo_lift_34 rfl (lv_at hl 1 rfl) ?_
    refine kq_get hx hb hts kt_F_Mo hown hK hO3 rfl 15 (by decide) kt_w391 rfl d_Mo_lift_35 ?_
    refine kq_call (va_runV (As := [.ref (mo + 29), .ref (mo + 28)]) (rest := []) ⟨hx, hb, hml, hown, hts⟩ (c_Mo_isRoot l E A mo far w3 H3 hE hA hO hW3 (mo + 29) (mo + 28) h29 (Or.inl h28) l28 (by omega) (by omega) (by omega) (by omega) (by omega)) (cwV 2 hts (kt_inV kt_w525 kt_w522 kt_w524 kt_s15 kt_w5) rfl rfl rfl (by decide +kernel) ⟨Nat.le_of_ble_eq_true rfl, Nat.le_of_ble_eq_true rfl⟩) (kq_preV ((ks_C_st E A)) (hC) (kq_recv hK hO3 rfl)) rfl rfl hl.1 rfl (lv_room (Nat.le_of_ble_eq_true rfl)) d_Mo_lift_38 ⟨Nat.zero_le _, Nat.zero_le _⟩) (fun v9 H4 L4 hq4 hL4 => ?_)
    obtain ⟨rfl, w4, hW4, e4, o4⟩ := hq4
    refine W.eq (g2 := F0 m 41 ls [.int (kq_z (decide (kc_root (w3 (mo + 28)) * kc_root (w3 (mo + 28)) % kP = w3 (mo + 28) % kP)))]) rfl ?_
    have hO4 := ks_obj hW4 hO.1 hO.2.1
    have hlc3 := t_lL (free := (fun x => x = mo + 7 + kx3 q ∨ x = mo + 12 + kx3 q ∨ x = mo + 16 ∨ ks_fr mo x)) hlc2 (fun q z => Or.inr (Or.inr (Or.inr (by rcases hL4 q z with y | y | y | y <;> (rw [y]; unfold ks_fr; omega)))))
    have k4 : ∀ x, ¬ ks_fr mo x → w4 x = v x := fun x hx0 => by rw [o4 x (by unfold ks_fr at hx0; omega) (by unfold ks_fr at hx0; omega) (by unfold ks_fr at hx0; omega) (by unfold ks_fr at hx0; omega), o3 x (by unfold ks_fr at hx0; omega) (by unfold ks_fr at hx0; omega) (by unfold ks_fr at hx0; omega)]
    rw [e3] at e4
    have s29 := ks_src hE hW4 hB (Or.inl h29)
    have b29 := ks_lt hE hW4 (Or.inl h29)
    have r29 := ks_row hW4 h29
    refine lv_if_eq hx hb d_Mo_lift_41 rfl (fun h2 => ?_) (fun h2 => ?_)
    · have hp : kc_hasb (v (mo + 2 + kx3 a)) = false := decide_eq_false (fun z => kq_z_eq.mp h2 (by rw [e3]; exact z.2))
      refine lv_iconst (v := nI 0) hx hb d_Mo_lift_58 (by decide) ?_
      exact W.zret hx hb hret rfl (fun t ht _ => ⟨_, rfl, by rw [hp]; rfl, w4, by rw [ht, hp, if_neg (by decide)]; exact ks_X_self hW4 hF, by rw [hp, if_neg (by decide)]; exact k4 _ (by unfold ks_fr; omega), by rw [hp, if_neg (by decide)]; exact k4 _ (by unfold ks_fr; omega), fun x _ _ x3 => k4 x x3⟩) hlc3 d_Mo_lift_59
    · have hr := kq_z_ne.mp h2
      rw [e3] at hr
      have hp : kc_hasb (v (mo + 2 + kx3 a)) = true := decide_eq_true ⟨g1, hr⟩
      have hy := e4 hr
      rw [hy] at s29 b29 r29
      obtain ⟨p0, p1⟩ := kx_root_pos hr
      have sP4 := ks_src hE hW4 hB (Or.inr hA.1.1)
      rw [ks_cst hW4 hA.1] at sP4
      refine lv_iload_n hx hb d_Mo_lift_44 rfl (lv_at hl 4 rfl) ?_
      refine lv_if_eq hx hb d_Mo_lift_45 rfl (fun hc0 => ?_) (fun hc0 => ?_)
      · have hd := kq_z_b0 hc0
        subst hd
        have k5 := k4
        refine lv_iload_n hx hb d_Mo_lift_60 rfl (lv_at hl 4 rfl) ?_
        refine lv_if_eq hx hb d_Mo_lift_61 rfl (fun hc1 => ?_) (fun hc1 => ?_)
        · refine lv_aload_n hx hb d_Mo_lift_79 rfl (lv_at hl 1 rfl) ?_
          refine lv_iload_n hx hb d_Mo_lift_80 rfl (lv_at hl 2 rfl) ?_
          refine lv_aload hx hb d_Mo_lift_81 (lv_at hl 0 rfl) ?_
          refine lv_aload_n hx hb d_Mo_lift_83 rfl (lv_at hl 1 rfl) ?_
          refine kq_get hx hb hts kt_F_Mo hown hK hO4 rfl 16 (by decide) kt_w392 rfl d_Mo_lift_84 ?_
          refine kq_call (va_runV (As := [.int q, .ref (mo + 2 + kx3 a), .ref (mo + 29)]) (rest := []) ⟨hx, hb, hml, hown, hts⟩ (c_Mo_keep l E A mo cZ far bs w4 H4 hE hA hG hF hW4 q (mo + 2 + kx3 a) (mo + 29) (Or.inl hao) (Or.inl h29) (by omega)) (cwV 3 hts (kt_inV kt_w543 kt_w540 kt_w542 kt_s16 kt_w5) rfl rfl rfl (by decide +kernel) ⟨Nat.le_of_ble_eq_true rfl, Nat.le_of_ble_eq_true rfl⟩) (kq_preV ((ks_KZ_st E A mo cZ)) (hKZ) (kq_recv hK hO4 rfl)) rfl rfl hl.1 rfl (lv_room (Nat.le_of_ble_eq_true rfl)) d_Mo_lift_87 ⟨Nat.zero_le _, Nat.zero_le _⟩) (fun v9 H6 L6 hq6 hL6 => ?_)
          obtain ⟨rfl, hX6⟩ := hq6
          refine W.eq (g2 := F0 m 90 ls []) rfl ?_
          have hlc4 := t_lL (free := (fun x => x = mo + 7 + kx3 q ∨ x = mo + 12 + kx3 q ∨ x = mo + 16 ∨ ks_fr mo x)) hlc3 (fun q z => by rcases hL6 q z with y | y | y; exact Or.inl y; exact Or.inr (Or.inl y); exact Or.inr (Or.inr (Or.inl y)))
          refine lv_iconst (v := nI 1) hx hb d_Mo_lift_90 (by decide) ?_
          refine W.zret hx hb hret rfl (fun t ht _ => ⟨_, rfl, by rw [hp]; rfl, _, by rw [ht, if_pos hp]; exact hX6, ?_, ?_, fun x x1 x2 x3 => ?_⟩) hlc4 d_Mo_lift_91
          · rw [if_pos hp, kq_up_ne (by omega), kq_up_at]
            exact k5 _ (by unfold ks_fr; omega)
          · rw [if_pos hp, kq_up_at]
            rw [hy]
            unfold kc_y
            rw [if_neg (by decide)]
          · rw [kq_up_ne x2, kq_up_ne x1]
            exact k5 x x3
        · exact absurd rfl hc1
      · have hd := kq_z_b1 hc0
        subst hd
        refine lv_aload_n hx hb d_Mo_lift_48 rfl (lv_at hl 1 rfl) ?_
        refine kq_get hx hb hts kt_F_Mo hown hK hO4 rfl 16 (by decide) kt_w392 rfl d_Mo_lift_49 ?_
        refine kq_call (va_runS (As := [.ref (mo + 29)]) (rest := []) ⟨hx, hb, hml, hown, hts⟩ (c_Mo_isZero l H4 (mo + 29) (kc_even (kc_root (kc_sq (v (mo + 2 + kx3 a))))) b29) (va_cwS 1 hts (kt_inS kt_w507 kt_w505 kt_w506 kt_w5) rfl rfl rfl (by decide +kernel) ⟨Nat.le_of_ble_eq_true rfl, Nat.le_of_ble_eq_true rfl⟩) (kq_preS (kq_st_r) (s29)) rfl rfl hl.1 rfl (lv_room (Nat.le_of_ble_eq_true rfl)) d_Mo_lift_52 ⟨Nat.zero_le _, Nat.zero_le _⟩) (fun v9 H9 L7 hq9 hL7 => ?_)
        obtain ⟨rfl, e9⟩ := hq9
        rw [e9]
        clear e9
        refine W.eq (g2 := F0 m 55 ls [.int (kq_z (decide (kc_even (kc_root (kc_sq (v (mo + 2 + kx3 a)))) = 0)))]) rfl ?_
        have hlc4 := t_lL (free := (fun x => x = mo + 7 + kx3 q ∨ x = mo + 12 + kx3 q ∨ x = mo + 16 ∨ ks_fr mo x)) hlc3 (fun q z => (hL7 q z).elim)
        refine lv_if_eq hx hb d_Mo_lift_55 rfl (fun h3 => ?_) (fun h3 => ?_)
        · refine lv_iload_n hx hb d_Mo_lift_60 rfl (lv_at hl 4 rfl) ?_
          refine lv_if_eq hx hb d_Mo_lift_61 rfl (fun hc1 => ?_) (fun hc1 => ?_)
          · exact absurd hc1 (by decide)
          · refine lv_aload_n hx hb d_Mo_lift_64 rfl (lv_at hl 1 rfl) ?_
            refine kq_get hx hb hts kt_F_Mo hown hK hO4 rfl 16 (by decide) kt_w392 rfl d_Mo_lift_65 ?_
            refine kq_gets hx hb hts (ks_zat hW4 hC.2.1) hown kt_w453 d_Mo_lift_68 ?_
            refine lv_aload_n hx hb d_Mo_lift_71 rfl (lv_at hl 1 rfl) ?_
            refine kq_get hx hb hts kt_F_Mo hown hK hO4 rfl 16 (by decide) kt_w392 rfl d_Mo_lift_72 ?_
            refine kq_call (va_runS (As := [.ref (mo + 29), .ref (A 0), .ref (mo + 29)]) (rest := []) ⟨hx, hb, hml, hown, hts⟩ (c_Mo_sub l H4 (ks_c E) (mo + 29) (A 0) (mo + 29) (kc_even (kc_root (kc_sq (v (mo + 2 + kx3 a))))) kP (kc_even (kc_root (kc_sq (v (mo + 2 + kx3 a))))) b29 lP b29 r29) (va_cwS 3 hts (kt_inS kt_w475 kt_w473 kt_w474 kt_w5) rfl rfl rfl (by decide +kernel) ⟨Nat.le_of_ble_eq_true rfl, Nat.le_of_ble_eq_true rfl⟩) (kq_preS (kq_st_A.both (kq_st_r.both kq_st_r)) (⟨hT, sP4, s29⟩)) rfl rfl hl.1 rfl (lv_room (Nat.le_of_ble_eq_true rfl)) d_Mo_lift_75 ⟨Nat.zero_le _, Nat.zero_le _⟩) (fun v9 H9 L8 hq9 hL8 => ?_)
            obtain ⟨rfl, rfl⟩ := hq9
            refine W.eq (g2 := F0 m 78 ls [.int (nI (18446744073709551616 - (if kP < kc_even (kc_root (kc_sq (v (mo + 2 + kx3 a)))) then 1 else 0)))]) rfl ?_
            have hW5 := ks_put hE hW4 h29 (kw_sub_lt kP (kc_even (kc_root (kc_sq (v (mo + 2 + kx3 a))))))
            have hO5 := ks_obj hW5 hO.1 hO.2.1
            have k5 : ∀ x, ¬ ks_fr mo x → va_up w4 (mo + 29) (kw_sub kP (kc_even (kc_root (kc_sq (v (mo + 2 + kx3 a)))))) x = v x := fun x hx0 => by rw [kq_up_ne (by unfold ks_fr at hx0; omega)]; exact k4 x hx0
            have hlc5 := t_lL (free := (fun x => x = mo + 7 + kx3 q ∨ x = mo + 12 + kx3 q ∨ x = mo + 16 ∨ ks_fr mo x)) hlc4 (fun q z => Or.inr (Or.inr (Or.inr (by rw [hL8 q z]; unfold ks_fr; omega))))
            refine lv_pop hx hb d_Mo_lift_78 rfl ?_
            refine lv_aload_n hx hb d_Mo_lift_79 rfl (lv_at hl 1 rfl) ?_
            refine lv_iload_n hx hb d_Mo_lift_80 rfl (lv_at hl 2 rfl) ?_
            refine lv_aload hx hb d_Mo_lift_81 (lv_at hl 0 rfl) ?_
            refine lv_aload_n hx hb d_Mo_lift_83 rfl (lv_at hl 1 rfl) ?_
            refine kq_get hx hb hts kt_F_Mo hown hK hO5 rfl 16 (by decide) kt_w392 rfl d_Mo_lift_84 ?_
            refine kq_call (va_runV (As := [.int q, .ref (mo + 2 + kx3 a), .ref (mo + 29)]) (rest := []) ⟨hx, hb, hml, hown, hts⟩ (c_Mo_keep l E A mo cZ far bs _ _ hE hA hG hF hW5 q (mo + 2 + kx3 a) (mo + 29) (Or.inl hao) (Or.inl h29) (by omega)) (cwV 3 hts (kt_inV kt_w543 kt_w540 kt_w542 kt_s16 kt_w5) rfl rfl rfl (by decide +kernel) ⟨Nat.le_of_ble_eq_true rfl, Nat.le_of_ble_eq_true rfl⟩) (kq_preV ((ks_KZ_st E A mo cZ)) (hKZ) (kq_recv hK hO5 rfl)) rfl rfl hl.1 rfl (lv_room (Nat.le_of_ble_eq_true rfl)) d_Mo_lift_87 ⟨Nat.zero_le _, Nat.zero_le _⟩) (fun v9 H6 L6 hq6 hL6 => ?_)
            obtain ⟨rfl, hX6⟩ := hq6
            refine W.eq (g2 := F0 m 90 ls []) rfl ?_
            have hlc6 := t_lL (free := (fun x => x = mo + 7 + kx3 q ∨ x = mo + 12 + kx3 q ∨ x = mo + 16 ∨ ks_fr mo x)) hlc5 (fun q z => by rcases hL6 q z with y | y | y; exact Or.inl y; exact Or.inr (Or.inl y); exact Or.inr (Or.inr (Or.inl y)))
            refine lv_iconst (v := nI 1) hx hb d_Mo_lift_90 (by decide) ?_
            refine W.zret hx hb hret rfl (fun t ht _ => ⟨_, rfl, by rw [hp]; rfl, _, by rw [ht, if_pos hp]; exact hX6, ?_, ?_, fun x x1 x2 x3 => ?_⟩) hlc6 d_Mo_lift_91
            · rw [if_pos hp, kq_up_ne (by omega), kq_up_at]
              exact k5 _ (by unfold ks_fr; omega)
            · rw [if_pos hp, kq_up_at]
              rw [kq_up_at]
              unfold kc_y
              rw [if_pos rfl, kx_difP p0 p1, kx_sub_le (Nat.le_of_lt p1) lP]
            · rw [kq_up_ne x2, kq_up_ne x1]
              exact k5 x x3
        · exact absurd (kq_z_ne.mp h3) (by omega)
  · have hp : kc_hasb (v (mo + 2 + kx3 a)) = false := decide_eq_false (fun z => h1 (kx_cmp_lt.mpr z.1))
    refine lv_iconst (v := nI 0) hx hb d_Mo_lift_21 (by decide) ?_
    exact W.zret hx hb hret rfl (fun t ht _ => ⟨_, rfl, by rw [hp]; rfl, v, by rw [ht, hp, if_neg (by decide)]; exact ks_X_self hW hF, by rw [hp, if_neg (by decide)], by rw [hp, if_neg (by decide)], fun _ _ _ _ => rfl⟩) hlc1 d_Mo_lift_22
