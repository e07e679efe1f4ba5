/-! KeyCurveModel: subtract, invert, root (own rows). -/
theorem d_Mo_subtract_0 : decode b_Mo_subtract 0 = .ok (.aload_n 0, 1) := by decide +kernel
theorem d_Mo_subtract_1 : decode b_Mo_subtract 1 = .ok (.aload_n 0, 1) := by decide +kernel
theorem d_Mo_subtract_2 : decode b_Mo_subtract 2 = .ok (.getfield 58, 3) := by decide +kernel
theorem d_Mo_subtract_5 : decode b_Mo_subtract 5 = .ok (.iload_n 2, 1) := by decide +kernel
theorem d_Mo_subtract_6 : decode b_Mo_subtract 6 = .ok (.iload 4, 2) := by decide +kernel
theorem d_Mo_subtract_8 : decode b_Mo_subtract 8 = .ok (.invokevirtual 138, 3) := by decide +kernel
theorem d_Mo_subtract_11 : decode b_Mo_subtract 11 = .ok (.aload_n 0, 1) := by decide +kernel
theorem d_Mo_subtract_12 : decode b_Mo_subtract 12 = .ok (.aload_n 0, 1) := by decide +kernel
theorem d_Mo_subtract_13 : decode b_Mo_subtract 13 = .ok (.getfield 61, 3) := by decide +kernel
theorem d_Mo_subtract_16 : decode b_Mo_subtract 16 = .ok (.iload_n 3, 1) := by decide +kernel
theorem d_Mo_subtract_17 : decode b_Mo_subtract 17 = .ok (.iload 4, 2) := by decide +kernel
theorem d_Mo_subtract_19 : decode b_Mo_subtract 19 = .ok (.invokevirtual 138, 3) := by decide +kernel
theorem d_Mo_subtract_22 : decode b_Mo_subtract 22 = .ok (.aload_n 0, 1) := by decide +kernel
theorem d_Mo_subtract_23 : decode b_Mo_subtract 23 = .ok (.getfield 58, 3) := by decide +kernel
theorem d_Mo_subtract_26 : decode b_Mo_subtract 26 = .ok (.aload_n 0, 1) := by decide +kernel
theorem d_Mo_subtract_27 : decode b_Mo_subtract 27 = .ok (.getfield 58, 3) := by decide +kernel
theorem d_Mo_subtract_30 : decode b_Mo_subtract 30 = .ok (.aload_n 0, 1) := by decide +kernel
theorem d_Mo_subtract_31 : decode b_Mo_subtract 31 = .ok (.getfield 61, 3) := by decide +kernel
theorem d_Mo_subtract_34 : decode b_Mo_subtract 34 = .ok (.invokestatic 97, 3) := by decide +kernel
theorem d_Mo_subtract_37 : decode b_Mo_subtract 37 = .ok (.ifCond .eq 29, 3) := by decide +kernel
theorem d_Mo_subtract_40 : decode b_Mo_subtract 40 = .ok (.aload_n 0, 1) := by decide +kernel
theorem d_Mo_subtract_41 : decode b_Mo_subtract 41 = .ok (.getfield 58, 3) := by decide +kernel
theorem d_Mo_subtract_44 : decode b_Mo_subtract 44 = .ok (.aload_n 0, 1) := by decide +kernel
theorem d_Mo_subtract_45 : decode b_Mo_subtract 45 = .ok (.getfield 58, 3) := by decide +kernel
theorem d_Mo_subtract_48 : decode b_Mo_subtract 48 = .ok (.iload 4, 2) := by decide +kernel
theorem d_Mo_subtract_50 : decode b_Mo_subtract 50 = .ok (.ifCond .eq 9, 3) := by decide +kernel
theorem d_Mo_subtract_53 : decode b_Mo_subtract 53 = .ok (.getstatic 115, 3) := by decide +kernel
theorem d_Mo_subtract_56 : decode b_Mo_subtract 56 = .ok (.goto 6, 3) := by decide +kernel
theorem d_Mo_subtract_59 : decode b_Mo_subtract 59 = .ok (.getstatic 90, 3) := by decide +kernel
theorem d_Mo_subtract_62 : decode b_Mo_subtract 62 = .ok (.invokestatic 101, 3) := by decide +kernel
theorem d_Mo_subtract_65 : decode b_Mo_subtract 65 = .ok (.pop, 1) := by decide +kernel
theorem d_Mo_subtract_66 : decode b_Mo_subtract 66 = .ok (.aload_n 0, 1) := by decide +kernel
theorem d_Mo_subtract_67 : decode b_Mo_subtract 67 = .ok (.getfield 9, 3) := by decide +kernel
theorem d_Mo_subtract_70 : decode b_Mo_subtract 70 = .ok (.iload_n 1, 1) := by decide +kernel
theorem d_Mo_subtract_71 : decode b_Mo_subtract 71 = .ok (.iconst 3, 1) := by decide +kernel
theorem d_Mo_subtract_72 : decode b_Mo_subtract 72 = .ok (.iand, 1) := by decide +kernel
theorem d_Mo_subtract_73 : decode b_Mo_subtract 73 = .ok (.aaload, 1) := by decide +kernel
theorem d_Mo_subtract_74 : decode b_Mo_subtract 74 = .ok (.aload_n 0, 1) := by decide +kernel
theorem d_Mo_subtract_75 : decode b_Mo_subtract 75 = .ok (.getfield 58, 3) := by decide +kernel
theorem d_Mo_subtract_78 : decode b_Mo_subtract 78 = .ok (.invokestatic 104, 3) := by decide +kernel
theorem d_Mo_subtract_81 : decode b_Mo_subtract 81 = .ok (.return_, 1) := by decide +kernel
set_option maxHeartbeats 4000000 in
set_option maxRecDepth 100000 in
theorem c_Mo_subtract (l : Launch) (E : ks_E) (A : Nat → Nat) (mo : Nat) (far : Bool) (v : Nat → Nat) (H : Heap) (hE : ks_ok E) (hA : ks_A E A) (hO : ks_O E mo far) (hG : ks_G E mo) (hW : ks_W E v H) (r a b : Int32) (d : Bool) : Met l y_Mo_subtract w_Mo_subtract ({ frames := 4, cells := 0, slots := 0, locals := 92 }) (kq_P [.ref mo, .int r, .int a, .int b, .int (kq_z d)] H (ks_K E A mo)) (kq_Q (fun o1 H1 => o1 = none ∧ ∃ w : Nat → Nat, ks_W E w H1 ∧ w (mo + 2 + kx3 r) = kp_dif (kx_m d) (v (mo + 2 + kx3 a)) (v (mo + 2 + kx3 b)) ∧ ∀ q, q ≠ mo + 2 + kx3 r → ¬ ks_fr mo q → w q = v q)) 0 0 (fun q => q = mo + 2 + kx3 r ∨ ks_fr mo q) := by
  refine Met.ofW (cc := b_Mo_subtract) (maxL := 5) (ret := none) (by decide) rfl ?_
  intro p e s m args below meth c s₁ B0 hml hv
  obtain ⟨rfl, hH, hKK⟩ := hv
  have hx := B0.exec
  have hb := B0.bytes
  have hret := B0.returns
  have hts := atoms_spec (ws := w_Mo_subtract) B0.pre
  have hown : s.vm.findClass R_Mo = some m.cls := findClass_of_methodNamed B0.named
  have hlocks := B0.notSynchronized
  rw [hH]
  have hl := lv_entry ([.ref mo, .int r, .int a, .int b, .int (kq_z d)]) (n := 5) (Nat.le_of_ble_eq_true rfl)
  rw [lg_entry_eq]
  generalize (lg_sl ([.ref mo, .int r, .int a, .int b, .int (kq_z d)]) ++ List.replicate (5 - (lg_sl ([.ref mo, .int r, .int a, .int b, .int (kq_z d)])).length) Slot.unset).toArray = ls at hl ⊢
  have hl : lv_has ls 5 [(0, .ref mo), (1, .int r), (2, .int a), (3, .int b), (4, .int (kq_z d))] := hl
  have hC := hKK.1
  have hB := hC.1
  have hK := hB.1
  have hT := ks_T hE hB
  have hOo := ks_obj hW hO.1 hO.2.1
  have hlc0 : ∀ q ∈ ([] : List Loc), q.base = mo + 2 + kx3 r ∨ ks_fr mo q.base := fun q h => by cases h
  have ka := kx3_lt a
  have kb := kx3_lt b
  have kr := kx3_lt r
  obtain ⟨hm0, hm8⟩ := kx_m_lt d
  refine lv_aload_n hx hb d_Mo_subtract_0 rfl (lv_at hl 0 rfl) ?_
  refine lv_aload_n hx hb d_Mo_subtract_1 rfl (lv_at hl 0 rfl) ?_
  refine kq_get hx hb hts kt_F_Mo hown hK hOo rfl 15 (by decide) kt_w391 rfl d_Mo_subtract_2 ?_
  refine lv_iload_n hx hb d_Mo_subtract_5 rfl (lv_at hl 2 rfl) ?_
  refine lv_iload hx hb d_Mo_subtract_6 (lv_at hl 4 rfl) ?_
  refine kq_call (va_runV (As := [.ref (mo + 28), .int a, .int (kq_z d)]) (rest := []) ⟨hx, hb, hml, hown, hts⟩ (c_Mo_below l E A mo far v H hE hA hO hG hW (mo + 28) (hO.2.2.1 28 (by decide) (by decide) (by decide)) a d) (cwV 3 hts (kt_inV kt_w458 kt_w455 kt_w457 kt_s10 kt_w5) rfl rfl rfl (by decide +kernel) ⟨Nat.le_of_ble_eq_true rfl, Nat.le_of_ble_eq_true rfl⟩) (kq_preV ((ks_K_st E A mo)) (hKK) (kq_recv hK hOo rfl)) rfl rfl hl.1 rfl (lv_room (Nat.le_of_ble_eq_true rfl)) d_Mo_subtract_8 ⟨Nat.zero_le _, Nat.zero_le _⟩) (fun v9 H1 L1 hq1 hL1 => ?_)
  obtain ⟨rfl, hX1⟩ := hq1
  refine W.eq (g2 := F0 m 11 ls []) rfl ?_
  obtain ⟨w1, f1, o1, hW1⟩ : ∃ w : Nat → Nat, w (mo + 28) = v (mo + 2 + kx3 a) % kx_m d ∧ (∀ q, q ≠ mo + 28 → w q = v q) ∧ ks_W E w H1 := ⟨_, kq_up_at, fun q hq => kq_up_ne hq, hX1⟩
  have hO1 := ks_obj hW1 hO.1 hO.2.1
  have hlc1 := t_lL (free := (fun q => q = mo + 2 + kx3 r ∨ ks_fr mo q)) hlc0 (fun q z => Or.inr (by rw [hL1 q z]; unfold ks_fr; omega))
  refine lv_aload_n hx hb d_Mo_subtract_11 rfl (lv_at hl 0 rfl) ?_
  refine lv_aload_n hx hb d_Mo_subtract_12 rfl (lv_at hl 0 rfl) ?_
  refine kq_get hx hb hts kt_F_Mo hown hK hO1 rfl 16 (by decide) kt_w392 rfl d_Mo_subtract_13 ?_
  refine lv_iload_n hx hb d_Mo_subtract_16 rfl (lv_at hl 3 rfl) ?_
  refine lv_iload hx hb d_Mo_subtract_17 (lv_at hl 4 rfl) ?_
  refine kq_call (va_runV (As := [.ref (mo + 29), .int b, .int (kq_z d)]) (rest := []) ⟨hx, hb, hml, hown, hts⟩ (c_Mo_below l E A mo far w1 H1 hE hA hO hG hW1 (mo + 29) (hO.2.2.1 29 (by decide) (by decide) (by decide)) b d) (cwV 3 hts (kt_inV kt_w458 kt_w455 kt_w457 kt_s10 kt_w5) rfl rfl rfl (by decide +kernel) ⟨Nat.le_of_ble_eq_true rfl, Nat.le_of_ble_eq_true rfl⟩) (kq_preV ((ks_K_st E A mo)) (hKK) (kq_recv hK hO1 rfl)) rfl rfl hl.1 rfl (lv_room (Nat.le_of_ble_eq_true rfl)) d_Mo_subtract_19 ⟨Nat.zero_le _, Nat.zero_le _⟩) (fun v9 H2 L2 hq2 hL2 => ?_)
  obtain ⟨rfl, hX2⟩ := hq2
  refine W.eq (g2 := F0 m 22 ls []) rfl ?_
  obtain ⟨w2, f2, o2, hW2⟩ : ∃ w : Nat → Nat, w (mo + 29) = w1 (mo + 2 + kx3 b) % kx_m d ∧ (∀ q, q ≠ mo + 29 → w q = w1 q) ∧ ks_W E w H2 := ⟨_, kq_up_at, fun q hq => kq_up_ne hq, hX2⟩
  have hO2 := ks_obj hW2 hO.1 hO.2.1
  have hlc2 := t_lL (free := (fun q => q = mo + 2 + kx3 r ∨ ks_fr mo q)) hlc1 (fun q z => Or.inr (by rw [hL2 q z]; unfold ks_fr; omega))
  have e28 : w2 (mo + 28) = v (mo + 2 + kx3 a) % kx_m d := by rw [o2 (mo + 28) (by omega), f1]
  have e29 : w2 (mo + 29) = v (mo + 2 + kx3 b) % kx_m d := by rw [f2, o1 (mo + 2 + kx3 b) (by omega)]
  have l28 : w2 (mo + 28) < kx_m d := by rw [e28]; exact Nat.mod_lt _ hm0
  have l29 : w2 (mo + 29) < kx_m d := by rw [e29]; exact Nat.mod_lt _ hm0
  have k2 : ∀ q, ¬ ks_fr mo q → w2 q = v q := fun q hq => by rw [o2 q (by unfold ks_fr at hq; omega), o1 q (by unfold ks_fr at hq; omega)]
  have h28 := hO.2.2.1 28 (by decide) (by decide) (by decide)
  have h29 := hO.2.2.1 29 (by decide) (by decide) (by decide)
  have s28 := ks_src hE hW2 hB (Or.inl h28)
  have s29 := ks_src hE hW2 hB (Or.inl h29)
  have r28 := ks_row hW2 h28
  have b28 := ks_lt hE hW2 (Or.inl h28)
  have b29 := ks_lt hE hW2 (Or.inl h29)
  have hm := ks_Am hA d
  refine lv_aload_n hx hb d_Mo_subtract_22 rfl (lv_at hl 0 rfl) ?_
  refine kq_get hx hb hts kt_F_Mo hown hK hO2 rfl 15 (by decide) kt_w391 rfl d_Mo_subtract_23 ?_
  refine lv_aload_n hx hb d_Mo_subtract_26 rfl (lv_at hl 0 rfl) ?_
  refine kq_get hx hb hts kt_F_Mo hown hK hO2 rfl 15 (by decide) kt_w391 rfl d_Mo_subtract_27 ?_
  refine lv_aload_n hx hb d_Mo_subtract_30 rfl (lv_at hl 0 rfl) ?_
  refine kq_get hx hb hts kt_F_Mo hown hK hO2 rfl 16 (by decide) kt_w392 rfl d_Mo_subtract_31 ?_
  refine kq_call (va_runS (As := [.ref (mo + 28), .ref (mo + 28), .ref (mo + 29)]) (rest := []) ⟨hx, hb, hml, hown, hts⟩ (c_Mo_sub l H2 (ks_c E) (mo + 28) (mo + 28) (mo + 29) (w2 (mo + 28)) (w2 (mo + 28)) (w2 (mo + 29)) b28 b28 b29 r28) (va_cwS 3 hts (kt_inS kt_w475 kt_w473 kt_w474 kt_w5) rfl rfl rfl (by decide +kernel) ⟨Nat.le_of_ble_eq_true rfl, Nat.le_of_ble_eq_true rfl⟩) (kq_preS (kq_st_A.both (kq_st_r.both kq_st_r)) (⟨hT, s28, s29⟩)) rfl rfl hl.1 rfl (lv_room (Nat.le_of_ble_eq_true rfl)) d_Mo_subtract_34 ⟨Nat.zero_le _, Nat.zero_le _⟩) (fun v9 H9 L3 hq9 hL3 => ?_)
  obtain ⟨rfl, rfl⟩ := hq9
  refine W.eq (g2 := F0 m 37 ls [.int (nI (18446744073709551616 - (if w2 (mo + 28) < w2 (mo + 29) then 1 else 0)))]) rfl ?_
  have key := kx_minusm hm8 l28 l29
  have hval : kp_dif (kx_m d) (w2 (mo + 28)) (w2 (mo + 29)) = kp_dif (kx_m d) (v (mo + 2 + kx3 a)) (v (mo + 2 + kx3 b)) := by rw [e28, e29, kx_dif_mod]
  rw [hval] at key
  have hW3 := ks_put hE hW2 h28 (kw_sub_lt (w2 (mo + 28)) (w2 (mo + 29)))
  have hO3 := ks_obj hW3 hO.1 hO.2.1
  have s3 := ks_src hE hW3 hB (Or.inl h28)
  have r3 := ks_row hW3 h28
  have sm := ks_src hE hW3 hB (Or.inr hm.1)
  have lm := ks_lt hE hW3 (Or.inr hm.1)
  rw [ks_cst hW3 hm] at sm lm
  rw [kq_up_at] at s3 r3
  have hlc3 := t_lL (free := (fun q => q = mo + 2 + kx3 r ∨ ks_fr mo q)) hlc2 (fun q z => Or.inr (by rw [hL3 q z]; unfold ks_fr; omega))
  refine lv_if_eq hx hb d_Mo_subtract_37 rfl (fun hz => ?_) (fun hz => ?_)
  · have hn9 : ¬ w2 (mo + 28) < w2 (mo + 29) := fun q => by
      rw [if_pos q] at hz
      exact absurd hz (by decide +kernel)
    rw [if_neg hn9] at key
    have hro := (hG.1 (kx3 r) (kx3_lt r)).1
    have hsf := ks_src hE hW3 hB (Or.inl (hO.2.2.1 28 (by decide) (by decide) (by decide)))
    have hlf := ks_lt hE hW3 (Or.inl (hO.2.2.1 28 (by decide) (by decide) (by decide)))
    have haf := hKK.2.1.other (hW3.2.2.1 (mo + 1) hG.2.1)
    refine lv_aload_n hx hb d_Mo_subtract_66 rfl (lv_at hl 0 rfl) ?_
    refine kq_get hx hb hts kt_F_Mo hown hK hO3 rfl 0 (by decide) kt_w376 rfl d_Mo_subtract_67 ?_
    refine lv_iload_n hx hb d_Mo_subtract_70 rfl (lv_at hl 1 rfl) ?_
    refine lv_iconst (v := nI 3) hx hb d_Mo_subtract_71 (by decide) ?_
    refine lv_iand hx hb d_Mo_subtract_72 ?_
    refine kq_ri (show r &&& (nI 3) = nI (kx3 r) from kx_and3 r) ?_
    refine kq_aald hx hb (haf) rfl (kx3_lt r) (by decide) (rfl) d_Mo_subtract_73 ?_
    refine lv_aload_n hx hb d_Mo_subtract_74 rfl (lv_at hl 0 rfl) ?_
    refine kq_get hx hb hts kt_F_Mo hown hK hO3 rfl 15 (by decide) kt_w391 rfl d_Mo_subtract_75 ?_
    refine kq_call (va_runS (As := [.ref (mo + 2 + kx3 r), .ref (mo + 28)]) (rest := []) ⟨hx, hb, hml, hown, hts⟩ (c_Mo_copy l _ (ks_c E) (mo + 2 + kx3 r) (mo + 28) _ _ (ks_row hW3 hro)) (va_cwS 2 hts (kt_inS kt_w461 kt_w459 kt_w460 kt_w5) rfl rfl rfl (by decide +kernel) ⟨Nat.le_of_ble_eq_true rfl, Nat.le_of_ble_eq_true rfl⟩) (kq_preS (kq_st_A.both kq_st_r) (⟨hT, hsf⟩)) rfl rfl hl.1 rfl (lv_room (Nat.le_of_ble_eq_true rfl)) d_Mo_subtract_78 ⟨Nat.zero_le _, Nat.zero_le _⟩) (fun v9 H9 L4 hq9 hL4 => ?_)
    obtain ⟨rfl, rfl⟩ := hq9
    refine W.eq (g2 := F0 m 81 ls []) rfl ?_
    have hlc4 := t_lL (free := (fun q => q = mo + 2 + kx3 r ∨ ks_fr mo q)) hlc3 (fun q z => Or.inl (hL4 q z))
    refine W.vret hx hb hret (fun t ht _ => ⟨_, rfl, rfl, _, by rw [ht]; exact ks_put hE hW3 hro hlf, ?_, fun q q0 q1 => ?_⟩) hlc4 d_Mo_subtract_81
    · rw [kq_up_at]
      rw [kq_up_at]
      exact key
    · rw [kq_up_ne q0]
      rw [kq_up_ne (by unfold ks_fr at q1; omega)]
      exact k2 q q1
  · have hn9 : w2 (mo + 28) < w2 (mo + 29) := Classical.byContradiction fun q => by
      rw [if_neg q] at hz
      exact hz (by decide +kernel)
    rw [if_pos hn9] at key
    refine lv_aload_n hx hb d_Mo_subtract_40 rfl (lv_at hl 0 rfl) ?_
    refine kq_get hx hb hts kt_F_Mo hown hK hO3 rfl 15 (by decide) kt_w391 rfl d_Mo_subtract_41 ?_
    refine lv_aload_n hx hb d_Mo_subtract_44 rfl (lv_at hl 0 rfl) ?_
    refine kq_get hx hb hts kt_F_Mo hown hK hO3 rfl 15 (by decide) kt_w391 rfl d_Mo_subtract_45 ?_
    refine lv_iload hx hb d_Mo_subtract_48 (lv_at hl 4 rfl) ?_
    refine lv_if_eq hx hb d_Mo_subtract_50 rfl (fun hc0 => ?_) (fun hc0 => ?_)
    · have hd := kq_z_b0 hc0
      subst hd
      refine kq_gets hx hb hts (ks_zat hW3 hC.2.1) hown kt_w453 d_Mo_subtract_59 ?_
      refine kq_call (va_runS (As := [.ref (mo + 28), .ref (mo + 28), .ref (A 0)]) (rest := []) ⟨hx, hb, hml, hown, hts⟩ (c_Mo_add_1 l _ (ks_c E) (mo + 28) (mo + 28) (A 0) (kw_sub (w2 (mo + 28)) (w2 (mo + 29))) (kw_sub (w2 (mo + 28)) (w2 (mo + 29))) (kx_m false) (kw_sub_lt _ _) (kw_sub_lt _ _) lm r3) (va_cwS 3 hts (kt_inS kt_w479 kt_w477 kt_w478 kt_w5) rfl rfl rfl (by decide +kernel) ⟨Nat.le_of_ble_eq_true rfl, Nat.le_of_ble_eq_true rfl⟩) (kq_preS (kq_st_A.both (kq_st_r.both kq_st_r)) (⟨hT, s3, sm⟩)) rfl rfl hl.1 rfl (lv_room (Nat.le_of_ble_eq_true rfl)) d_Mo_subtract_62 ⟨Nat.zero_le _, Nat.zero_le _⟩) (fun v9 H9 L4 hq9 hL4 => ?_)
      obtain ⟨rfl, rfl⟩ := hq9
      refine W.eq (g2 := F0 m 65 ls [.int (nI ((kw_sub (w2 (mo + 28)) (w2 (mo + 29)) + kx_m false) / kw_M 8))]) rfl ?_
      refine kq_rH (kq_set_set _ _ _ _) ?_
      have hlc4 := t_lL (free := (fun q => q = mo + 2 + kx3 r ∨ ks_fr mo q)) hlc3 (fun q z => Or.inr (by rw [hL4 q z]; unfold ks_fr; omega))
      have hW4 := ks_put hE hW2 h28 (show (kw_sub (w2 (mo + 28)) (w2 (mo + 29)) + kx_m false) % kw_M 8 < kw_M 8 from Nat.mod_lt _ (kw_M_pos 8))
      have hO4 := ks_obj hW4 hO.1 hO.2.1
      refine lv_pop hx hb d_Mo_subtract_65 rfl ?_
      have hro := (hG.1 (kx3 r) (kx3_lt r)).1
      have hsf := ks_src hE hW4 hB (Or.inl (hO.2.2.1 28 (by decide) (by decide) (by decide)))
      have hlf := ks_lt hE hW4 (Or.inl (hO.2.2.1 28 (by decide) (by decide) (by decide)))
      have haf := hKK.2.1.other (hW4.2.2.1 (mo + 1) hG.2.1)
      refine lv_aload_n hx hb d_Mo_subtract_66 rfl (lv_at hl 0 rfl) ?_
      refine kq_get hx hb hts kt_F_Mo hown hK hO4 rfl 0 (by decide) kt_w376 rfl d_Mo_subtract_67 ?_
      refine lv_iload_n hx hb d_Mo_subtract_70 rfl (lv_at hl 1 rfl) ?_
      refine lv_iconst (v := nI 3) hx hb d_Mo_subtract_71 (by decide) ?_
      refine lv_iand hx hb d_Mo_subtract_72 ?_
      refine kq_ri (show r &&& (nI 3) = nI (kx3 r) from kx_and3 r) ?_
      refine kq_aald hx hb (haf) rfl (kx3_lt r) (by decide) (rfl) d_Mo_subtract_73 ?_
      refine lv_aload_n hx hb d_Mo_subtract_74 rfl (lv_at hl 0 rfl) ?_
      refine kq_get hx hb hts kt_F_Mo hown hK hO4 rfl 15 (by decide) kt_w391 rfl d_Mo_subtract_75 ?_
      refine kq_call (va_runS (As := [.ref (mo + 2 + kx3 r), .ref (mo + 28)]) (rest := []) ⟨hx, hb, hml, hown, hts⟩ (c_Mo_copy l _ (ks_c E) (mo + 2 + kx3 r) (mo + 28) _ _ (ks_row hW4 hro)) (va_cwS 2 hts (kt_inS kt_w461 kt_w459 kt_w460 kt_w5) rfl rfl rfl (by decide +kernel) ⟨Nat.le_of_ble_eq_true rfl, Nat.le_of_ble_eq_true rfl⟩) (kq_preS (kq_st_A.both kq_st_r) (⟨hT, hsf⟩)) rfl rfl hl.1 rfl (lv_room (Nat.le_of_ble_eq_true rfl)) d_Mo_subtract_78 ⟨Nat.zero_le _, Nat.zero_le _⟩) (fun v9 H9 L5 hq9 hL5 => ?_)
      obtain ⟨rfl, rfl⟩ := hq9
      refine W.eq (g2 := F0 m 81 ls []) rfl ?_
      have hlc5 := t_lL (free := (fun q => q = mo + 2 + kx3 r ∨ ks_fr mo q)) hlc4 (fun q z => Or.inl (hL5 q z))
      refine W.vret hx hb hret (fun t ht _ => ⟨_, rfl, rfl, _, by rw [ht]; exact ks_put hE hW4 hro hlf, ?_, fun q q0 q1 => ?_⟩) hlc5 d_Mo_subtract_81
      · rw [kq_up_at]
        rw [kq_up_at]
        exact key
      · rw [kq_up_ne q0]
        rw [kq_up_ne (by unfold ks_fr at q1; omega)]
        exact k2 q q1
    · have hd := kq_z_b1 hc0
      subst hd
      refine kq_gets hx hb hts (ks_zat hW3 hC.2.2.1) hown kt_w451 d_Mo_subtract_53 ?_
      refine lv_goto hx hb d_Mo_subtract_56 rfl ?_
      refine kq_call (va_runS (As := [.ref (mo + 28), .ref (mo + 28), .ref (A 1)]) (rest := []) ⟨hx, hb, hml, hown, hts⟩ (c_Mo_add_1 l _ (ks_c E) (mo + 28) (mo + 28) (A 1) (kw_sub (w2 (mo + 28)) (w2 (mo + 29))) (kw_sub (w2 (mo + 28)) (w2 (mo + 29))) (kx_m true) (kw_sub_lt _ _) (kw_sub_lt _ _) lm r3) (va_cwS 3 hts (kt_inS kt_w479 kt_w477 kt_w478 kt_w5) rfl rfl rfl (by decide +kernel) ⟨Nat.le_of_ble_eq_true rfl, Nat.le_of_ble_eq_true rfl⟩) (kq_preS (kq_st_A.both (kq_st_r.both kq_st_r)) (⟨hT, s3, sm⟩)) rfl rfl hl.1 rfl (lv_room (Nat.le_of_ble_eq_true rfl)) d_Mo_subtract_62 ⟨Nat.zero_le _, Nat.zero_le _⟩) (fun v9 H9 L4 hq9 hL4 => ?_)
      obtain ⟨rfl, rfl⟩ := hq9
      refine W.eq (g2 := F0 m 65 ls [.int (nI ((kw_sub (w2 (mo + 28)) (w2 (mo + 29)) + kx_m true) / kw_M 8))]) rfl ?_
      refine kq_rH (kq_set_set _ _ _ _) ?_
      have hlc4 := t_lL (free := (fun q => q = mo + 2 + kx3 r ∨ ks_fr mo q)) hlc3 (fun q z => Or.inr (by rw [hL4 q z]; unfold ks_fr; omega))
      have hW4 := ks_put hE hW2 h28 (show (kw_sub (w2 (mo + 28)) (w2 (mo + 29)) + kx_m true) % kw_M 8 < kw_M 8 from Nat.mod_lt _ (kw_M_pos 8))
      have hO4 := ks_obj hW4 hO.1 hO.2.1
      refine lv_pop hx hb d_Mo_subtract_65 rfl ?_
      have hro := (hG.1 (kx3 r) (kx3_lt r)).1
      have hsf := ks_src hE hW4 hB (Or.inl (hO.2.2.1 28 (by decide) (by decide) (by decide)))
      have hlf := ks_lt hE hW4 (Or.inl (hO.2.2.1 28 (by decide) (by decide) (by decide)))
      have haf := hKK.2.1.other (hW4.2.2.1 (mo + 1) hG.2.1)
      refine lv_aload_n hx hb d_Mo_subtract_66 rfl (lv_at hl 0 rfl) ?_
      refine kq_get hx hb hts kt_F_Mo hown hK hO4 rfl 0 (by decide) kt_w376 rfl d_Mo_subtract_67 ?_
      refine lv_iload_n hx hb d_Mo_subtract_70 rfl (lv_at hl 1 rfl) ?_
      refine lv_iconst (v := nI 3) hx hb d_Mo_subtract_71 (by decide) ?_
      refine lv_iand hx hb d_Mo_subtract_72 ?_
      refine kq_ri (show r &&& (nI 3) = nI (kx3 r) from kx_and3 r) ?_
      refine kq_aald hx hb (haf) rfl (kx3_lt r) (by decide) (rfl) d_Mo_subtract_73 ?_
      refine lv_aload_n hx hb d_Mo_subtract_74 rfl (lv_at hl 0 rfl) ?_
      refine kq_get hx hb hts kt_F_Mo hown hK hO4 rfl 15 (by decide) kt_w391 rfl d_Mo_subtract_75 ?_
      refine kq_call (va_runS (As := [.ref (mo + 2 + kx3 r), .ref (mo + 28)]) (rest := []) ⟨hx, hb, hml, hown, hts⟩ (c_Mo_copy l _ (ks_c E) (mo + 2 + kx3 r) (mo + 28) _ _ (ks_row hW4 hro)) (va_cwS 2 hts (kt_inS kt_w461 kt_w459 kt_w460 kt_w5) rfl rfl rfl (by decide +kernel) ⟨Nat.le_of_ble_eq_true rfl, Nat.le_of_ble_eq_true rfl⟩) (kq_preS (kq_st_A.both kq_st_r) (⟨hT, hsf⟩)) rfl rfl hl.1 rfl (lv_room (Nat.le_of_ble_eq_true rfl)) d_Mo_subtract_78 ⟨Nat.zero_le _, Nat.zero_le _⟩) (fun v9 H9 L5 hq9 hL5 => ?_)
      obtain ⟨rfl, rfl⟩ := hq9
      refine W.eq (g2 := F0 m 81 ls []) rfl ?_
      have hlc5 := t_lL (free := (fun q => q = mo + 2 + kx3 r ∨ ks_fr mo q)) hlc4 (fun q z => Or.inl (hL5 q z))
      refine W.vret hx hb hret (fun t ht _ => ⟨_, rfl, rfl, _, by rw [ht]; exact ks_put hE hW4 hro hlf, ?_, fun q q0 q1 => ?_⟩) hlc5 d_Mo_subtract_81
      · rw [kq_up_at]
        rw [kq_up_at]
        exact key
      · rw [kq_up_ne q0]
        rw [kq_up_ne (by unfold ks_fr at q1; omega)]
        exact k2 q q1
theorem d_Mo_invert_0 : decode b_Mo_invert 0 = .ok (.aload_n 0, 1) := by decide +kernel
theorem d_Mo_invert_1 : decode b_Mo_invert 1 = .ok (.aload_n 0, 1) := by decide +kernel
theorem d_Mo_invert_2 : decode b_Mo_invert 2 = .ok (.getfield 58, 3) := by decide +kernel
theorem d_Mo_invert_5 : decode b_Mo_invert 5 = .ok (.iload_n 2, 1) := by decide +kernel
theorem d_Mo_invert_6 : decode b_Mo_invert 6 = .ok (.iload_n 3, 1) := by decide +kernel
theorem d_Mo_invert_7 : decode b_Mo_invert 7 = .ok (.invokevirtual 138, 3) := by decide +kernel
theorem d_Mo_invert_10 : decode b_Mo_invert 10 = .ok (.aload_n 0, 1) := by decide +kernel
theorem d_Mo_invert_11 : decode b_Mo_invert 11 = .ok (.getfield 58, 3) := by decide +kernel
theorem d_Mo_invert_14 : decode b_Mo_invert 14 = .ok (.invokestatic 122, 3) := by decide +kernel
theorem d_Mo_invert_17 : decode b_Mo_invert 17 = .ok (.ifCond .eq 5, 3) := by decide +kernel
theorem d_Mo_invert_20 : decode b_Mo_invert 20 = .ok (.iconst 0, 1) := by decide +kernel
theorem d_Mo_invert_21 : decode b_Mo_invert 21 = .ok (.ireturn, 1) := by decide +kernel
theorem d_Mo_invert_22 : decode b_Mo_invert 22 = .ok (.aload_n 0, 1) := by decide +kernel
theorem d_Mo_invert_23 : decode b_Mo_invert 23 = .ok (.aload_n 0, 1) := by decide +kernel
theorem d_Mo_invert_24 : decode b_Mo_invert 24 = .ok (.getfield 61, 3) := by decide +kernel
theorem d_Mo_invert_27 : decode b_Mo_invert 27 = .ok (.aload_n 0, 1) := by decide +kernel
theorem d_Mo_invert_28 : decode b_Mo_invert 28 = .ok (.getfield 58, 3) := by decide +kernel
theorem d_Mo_invert_31 : decode b_Mo_invert 31 = .ok (.iload_n 3, 1) := by decide +kernel
theorem d_Mo_invert_32 : decode b_Mo_invert 32 = .ok (.ifCond .eq 9, 3) := by decide +kernel
theorem d_Mo_invert_35 : decode b_Mo_invert 35 = .ok (.getstatic 115, 3) := by decide +kernel
theorem d_Mo_invert_38 : decode b_Mo_invert 38 = .ok (.goto 6, 3) := by decide +kernel
theorem d_Mo_invert_41 : decode b_Mo_invert 41 = .ok (.getstatic 90, 3) := by decide +kernel
theorem d_Mo_invert_44 : decode b_Mo_invert 44 = .ok (.invokevirtual 135, 3) := by decide +kernel
theorem d_Mo_invert_47 : decode b_Mo_invert 47 = .ok (.aload_n 0, 1) := by decide +kernel
theorem d_Mo_invert_48 : decode b_Mo_invert 48 = .ok (.getfield 9, 3) := by decide +kernel
theorem d_Mo_invert_51 : decode b_Mo_invert 51 = .ok (.iload_n 1, 1) := by decide +kernel
theorem d_Mo_invert_52 : decode b_Mo_invert 52 = .ok (.iconst 3, 1) := by decide +kernel
theorem d_Mo_invert_53 : decode b_Mo_invert 53 = .ok (.iand, 1) := by decide +kernel
theorem d_Mo_invert_54 : decode b_Mo_invert 54 = .ok (.aaload, 1) := by decide +kernel
theorem d_Mo_invert_55 : decode b_Mo_invert 55 = .ok (.aload_n 0, 1) := by decide +kernel
theorem d_Mo_invert_56 : decode b_Mo_invert 56 = .ok (.getfield 61, 3) := by decide +kernel
theorem d_Mo_invert_59 : decode b_Mo_invert 59 = .ok (.invokestatic 104, 3) := by decide +kernel
theorem d_Mo_invert_62 : decode b_Mo_invert 62 = .ok (.iconst 1, 1) := by decide +kernel
theorem d_Mo_invert_63 : decode b_Mo_invert 63 = .ok (.ireturn, 1) := by decide +kernel
set_option maxHeartbeats 4000000 in
set_option maxRecDepth 100000 in
theorem c_Mo_invert (l : Launch) (E : ks_E) (A : Nat → Nat) (mo : Nat) (far : Bool) (v : Nat → Nat) (H : Heap) (hE : ks_ok E) (hA : ks_A E A) (hO : ks_O E mo far) (hG : ks_G E mo) (hW : ks_W E v H) (r a : Int32) (d : Bool) : Met l y_Mo_invert w_Mo_invert ({ frames := 4, cells := 0, slots := 0, locals := 92 }) (kq_P [.ref mo, .int r, .int a, .int (kq_z d)] H (ks_K E A mo)) (kq_Q (fun o1 H1 => o1 = some (.int (kq_z (decide (¬ v (mo + 2 + kx3 a) % kx_m d = 0)))) ∧ ∃ w : Nat → Nat, ks_W E w H1 ∧ w (mo + 2 + kx3 r) = (if v (mo + 2 + kx3 a) % kx_m d = 0 then v (mo + 2 + kx3 r) else kf_inv (kx_m d) (v (mo + 2 + kx3 a) % kx_m d)) ∧ ∀ q, q ≠ mo + 2 + kx3 r → ¬ ks_fr mo q → w q = v q)) 0 0 (fun q => q = mo + 2 + kx3 r ∨ ks_fr mo q) := by
  refine Met.ofW (cc := b_Mo_invert) (maxL := 4) (ret := (some .boolean)) (by decide) rfl ?_
  intro p e s m args below meth c s₁ B0 hml hv
  obtain ⟨rfl, hH, hKK⟩ := hv
  have hx := B0.exec
  have hb := B0.bytes
  have hret := B0.returns
  have hts := atoms_spec (ws := w_Mo_invert) B0.pre
  have hown : s.vm.findClass R_Mo = some m.cls := findClass_of_methodNamed B0.named
  have hlocks := B0.notSynchronized
  rw [hH]
  have hl := lv_entry ([.ref mo, .int r, .int a, .int (kq_z d)]) (n := 4) (Nat.le_of_ble_eq_true rfl)
  rw [lg_entry_eq]
  generalize (lg_sl ([.ref mo, .int r, .int a, .int (kq_z d)]) ++ List.replicate (4 - (lg_sl ([.ref mo, .int r, .int a, .int (kq_z d)])).length) Slot.unset).toArray = ls at hl ⊢
  have hl : lv_has ls 4 [(0, .ref mo), (1, .int r), (2, .int a), (3, .int (kq_z d))] := hl
  have hC := hKK.1
  have hB := hC.1
  have hK := hB.1
  have hT := ks_T hE hB
  have hOo := ks_obj hW hO.1 hO.2.1
  have hlc0 : ∀ q ∈ ([] : List Loc), q.base = mo + 2 + kx3 r ∨ ks_fr mo q.base := fun q h => by cases h
  have ka := kx3_lt a
  have kr := kx3_lt r
  obtain ⟨hm0, hm8⟩ := kx_m_lt d
  obtain ⟨hpr, hodd⟩ := kx_m_pr d
  refine lv_aload_n hx hb d_Mo_invert_0 rfl (lv_at hl 0 rfl) ?_
  refine lv_aload_n hx hb d_Mo_invert_1 rfl (lv_at hl 0 rfl) ?_
  refine kq_get hx hb hts kt_F_Mo hown hK hOo rfl 15 (by decide) kt_w391 rfl d_Mo_invert_2 ?_
  refine lv_iload_n hx hb d_Mo_invert_5 rfl (lv_at hl 2 rfl) ?_
  refine lv_iload_n hx hb d_Mo_invert_6 rfl (lv_at hl 3 rfl) ?_
  refine kq_call (va_runV (As := [.ref (mo + 28), .int a, .int (kq_z d)]) (rest := []) ⟨hx, hb, hml, hown, hts⟩ (c_Mo_below l E A mo far v H hE hA hO hG hW (mo + 28) (hO.2.2.1 28 (by decide) (by decide) (by decide)) a d) (cwV 3 hts (kt_inV kt_w458 kt_w455 kt_w457 kt_s10 kt_w5) rfl rfl rfl (by decide +kernel) ⟨Nat.le_of_ble_eq_true rfl, Nat.le_of_ble_eq_true rfl⟩) (kq_preV ((ks_K_st E A mo)) (hKK) (kq_recv hK hOo rfl)) rfl rfl hl.1 rfl (lv_room (Nat.le_of_ble_eq_true rfl)) d_Mo_invert_7 ⟨Nat.zero_le _, Nat.zero_le _⟩) (fun v9 H1 L1 hq1 hL1 => ?_)
  obtain ⟨rfl, hX1⟩ := hq1
  refine W.eq (g2 := F0 m 10 ls []) rfl ?_
  obtain ⟨w1, f1, o1, hW1⟩ : ∃ w : Nat → Nat, w (mo + 28) = v (mo + 2 + kx3 a) % kx_m d ∧ (∀ q, q ≠ mo + 28 → w q = v q) ∧ ks_W E w H1 := ⟨_, kq_up_at, fun q hq => kq_up_ne hq, hX1⟩
  have hO1 := ks_obj hW1 hO.1 hO.2.1
  have hlc1 := t_lL (free := (fun q => q = mo + 2 + kx3 r ∨ ks_fr mo q)) hlc0 (fun q z => Or.inr (by rw [hL1 q z]; unfold ks_fr; omega))
  have h28 := hO.2.2.1 28 (by decide) (by decide) (by decide)
  have h29 := hO.2.2.1 29 (by decide) (by decide) (by decide)
  have s28 := ks_src hE hW1 hB (Or.inl h28)
  have b28 := ks_lt hE hW1 (Or.inl h28)
  have l28 : w1 (mo + 28) < kx_m d := by rw [f1]; exact Nat.mod_lt _ hm0
  have k1 : ∀ q, ¬ ks_fr mo q → w1 q = v q := fun q hq => o1 q (by unfold ks_fr at hq; omega)
  have hm := ks_Am hA d
  refine lv_aload_n hx hb d_Mo_invert_10 rfl (lv_at hl 0 rfl) ?_
  refine kq_get hx hb hts kt_F_Mo hown hK hO1 rfl 15 (by decide) kt_w391 rfl d_Mo_invert_11 ?_
  refine kq_call (va_runS (As := [.ref (mo + 28)]) (rest := []) ⟨hx, hb, hml, hown, hts⟩ (c_Mo_isZero l H1 (mo + 28) (w1 (mo + 28)) b28) (va_cwS 1 hts (kt_inS kt_w507 kt_w505 kt_w506 kt_w5) rfl rfl rfl (by decide +kernel) ⟨Nat.le_of_ble_eq_true rfl, Nat.le_of_ble_eq_true rfl⟩) (kq_preS (kq_st_r) (s28)) rfl rfl hl.1 rfl (lv_room (Nat.le_of_ble_eq_true rfl)) d_Mo_invert_14 ⟨Nat.zero_le _, Nat.zero_le _⟩) (fun v9 H9 L2 hq9 hL2 => ?_)
  obtain ⟨rfl, e9⟩ := hq9
  rw [e9]
  clear e9
  refine W.eq (g2 := F0 m 17 ls [.int (kq_z (decide (w1 (mo + 28) = 0)))]) rfl ?_
  have hlc2 := t_lL (free := (fun q => q = mo + 2 + kx3 r ∨ ks_fr mo q)) hlc1 (fun q z => (hL2 q z).elim)
  refine lv_if_eq hx hb d_Mo_invert_17 rfl (fun hz => ?_) (fun hz => ?_)
  · have hnz := kq_z_eq.mp hz
    have hZ : ¬ v (mo + 2 + kx3 a) % kx_m d = 0 := by rw [← f1]; exact hnz
    refine lv_aload_n hx hb d_Mo_invert_22 rfl (lv_at hl 0 rfl) ?_
    refine lv_aload_n hx hb d_Mo_invert_23 rfl (lv_at hl 0 rfl) ?_
    refine kq_get hx hb hts kt_F_Mo hown hK hO1 rfl 16 (by decide) kt_w392 rfl d_Mo_invert_24 ?_
    refine lv_aload_n hx hb d_Mo_invert_27 rfl (lv_at hl 0 rfl) ?_
    refine kq_get hx hb hts kt_F_Mo hown hK hO1 rfl 15 (by decide) kt_w391 rfl d_Mo_invert_28 ?_
    refine lv_iload_n hx hb d_Mo_invert_31 rfl (lv_at hl 3 rfl) ?_
    refine lv_if_eq hx hb d_Mo_invert_32 rfl (fun hc0 => ?_) (fun hc0 => ?_)
    · have hd := kq_z_b0 hc0
      subst hd
      refine kq_gets hx hb hts (ks_zat hW1 hC.2.1) hown kt_w453 d_Mo_invert_41 ?_
      refine kq_call (va_runV (As := [.ref (mo + 29), .ref (mo + 28), .ref (A 0)]) (rest := []) ⟨hx, hb, hml, hown, hts⟩ (c_Mo_inverse l E A mo far w1 H1 hE hA hO hW1 (mo + 29) (mo + 28) (A 0) (kx_m false) h29 (Or.inl h28) hm hpr hodd hm8 (by omega) l28 (by omega)) (cwV 3 hts (kt_inV kt_w511 kt_w508 kt_w510 kt_s14 kt_w5) rfl rfl rfl (by decide +kernel) ⟨Nat.le_of_ble_eq_true rfl, Nat.le_of_ble_eq_true rfl⟩) (kq_preV ((ks_C_st E A)) (hC) (kq_recv hK hO1 rfl)) rfl rfl hl.1 rfl (lv_room (Nat.le_of_ble_eq_true rfl)) d_Mo_invert_44 ⟨Nat.zero_le _, Nat.zero_le _⟩) (fun v9 H3 L3 hq3 hL3 => ?_)
      obtain ⟨rfl, w3, hW3, e3, o3⟩ := hq3
      refine W.eq (g2 := F0 m 47 ls []) rfl ?_
      have hO3 := ks_obj hW3 hO.1 hO.2.1
      have hlc3 := t_lL (free := (fun q => q = mo + 2 + kx3 r ∨ ks_fr mo q)) hlc2 (fun q z => Or.inr (by rcases hL3 q z with y | y | y | y | y <;> (rw [y]; unfold ks_fr; omega)))
      have hro := (hG.1 (kx3 r) (kx3_lt r)).1
      have hsf := ks_src hE hW3 hB (Or.inl (hO.2.2.1 29 (by decide) (by decide) (by decide)))
      have hlf := ks_lt hE hW3 (Or.inl (hO.2.2.1 29 (by decide) (by decide) (by decide)))
      have haf := hKK.2.1.other (hW3.2.2.1 (mo + 1) hG.2.1)
      refine lv_aload_n hx hb d_Mo_invert_47 rfl (lv_at hl 0 rfl) ?_
      refine kq_get hx hb hts kt_F_Mo hown hK hO3 rfl 0 (by decide) kt_w376 rfl d_Mo_invert_48 ?_
      refine lv_iload_n hx hb d_Mo_invert_51 rfl (lv_at hl 1 rfl) ?_
      refine lv_iconst (v := nI 3) hx hb d_Mo_invert_52 (by decide) ?_
      refine lv_iand hx hb d_Mo_invert_53 ?_
      refine kq_ri (show r &&& (nI 3) = nI (kx3 r) from kx_and3 r) ?_
      refine kq_aald hx hb (haf) rfl (kx3_lt r) (by decide) (rfl) d_Mo_invert_54 ?_
      refine lv_aload_n hx hb d_Mo_invert_55 rfl (lv_at hl 0 rfl) ?_
      refine kq_get hx hb hts kt_F_Mo hown hK hO3 rfl 16 (by decide) kt_w392 rfl d_Mo_invert_56 ?_
      refine kq_call (va_runS (As := [.ref (mo + 2 + kx3 r), .ref (mo + 29)]) (rest := []) ⟨hx, hb, hml, hown, hts⟩ (c_Mo_copy l _ (ks_c E) (mo + 2 + kx3 r) (mo + 29) _ _ (ks_row hW3 hro)) (va_cwS 2 hts (kt_inS kt_w461 kt_w459 kt_w460 kt_w5) rfl rfl rfl (by decide +kernel) ⟨Nat.le_of_ble_eq_true rfl, Nat.le_of_ble_eq_true rfl⟩) (kq_preS (kq_st_A.both kq_st_r) (⟨hT, hsf⟩)) rfl rfl hl.1 rfl (lv_room (Nat.le_of_ble_eq_true rfl)) d_Mo_invert_59 ⟨Nat.zero_le _, Nat.zero_le _⟩) (fun v9 H9 L4 hq9 hL4 => ?_)
      obtain ⟨rfl, rfl⟩ := hq9
      refine W.eq (g2 := F0 m 62 ls []) rfl ?_
      have hlc4 := t_lL (free := (fun q => q = mo + 2 + kx3 r ∨ ks_fr mo q)) hlc3 (fun q z => Or.inl (hL4 q z))
      refine lv_iconst (v := nI 1) hx hb d_Mo_invert_62 (by decide) ?_
      refine W.zret hx hb hret rfl (fun t ht _ => ⟨_, rfl, by rw [kq_z_t hZ], _, by rw [ht]; exact ks_put hE hW3 hro hlf, ?_, fun q q0 q1 => ?_⟩) hlc4 d_Mo_invert_63
      · rw [kq_up_at]
        rw [e3, if_neg hZ, f1]
      · rw [kq_up_ne q0]
        rw [o3 q (by unfold ks_fr at q1; omega) (by unfold ks_fr at q1; omega) (by unfold ks_fr at q1; omega) (by unfold ks_fr at q1; omega) (by unfold ks_fr at q1; omega)]
        exact k1 q q1
    · have hd := kq_z_b1 hc0
      subst hd
      refine kq_gets hx hb hts (ks_zat hW1 hC.2.2.1) hown kt_w451 d_Mo_invert_35 ?_
      refine lv_goto hx hb d_Mo_invert_38 rfl ?_
      refine kq_call (va_runV (As := [.ref (mo + 29), .ref (mo + 28), .ref (A 1)]) (rest := []) ⟨hx, hb, hml, hown, hts⟩ (c_Mo_inverse l E A mo far w1 H1 hE hA hO hW1 (mo + 29) (mo + 28) (A 1) (kx_m true) h29 (Or.inl h28) hm hpr hodd hm8 (by omega) l28 (by omega)) (cwV 3 hts (kt_inV kt_w511 kt_w508 kt_w510 kt_s14 kt_w5) rfl rfl rfl (by decide +kernel) ⟨Nat.le_of_ble_eq_true rfl, Nat.le_of_ble_eq_true rfl⟩) (kq_preV ((ks_C_st E A)) (hC) (kq_recv hK hO1 rfl)) rfl rfl hl.1 rfl (lv_room (Nat.le_of_ble_eq_true rfl)) d_Mo_invert_44 ⟨Nat.zero_le _, Nat.zero_le _⟩) (fun v9 H3 L3 hq3 hL3 => ?_)
      obtain ⟨rfl, w3, hW3, e3, o3⟩ := hq3
      refine W.eq (g2 := F0 m 47 ls []) rfl ?_
      have hO3 := ks_obj hW3 hO.1 hO.2.1
      have hlc3 := t_lL (free := (fun q => q = mo + 2 + kx3 r ∨ ks_fr mo q)) hlc2 (fun q z => Or.inr (by rcases hL3 q z with y | y | y | y | y <;> (rw [y]; unfold ks_fr; omega)))
      have hro := (hG.1 (kx3 r) (kx3_lt r)).1
      have hsf := ks_src hE hW3 hB (Or.inl (hO.2.2.1 29 (by decide) (by decide) (by decide)))
      have hlf := ks_lt hE hW3 (Or.inl (hO.2.2.1 29 (by decide) (by decide) (by decide)))
      have haf := hKK.2.1.other (hW3.2.2.1 (mo + 1) hG.2.1)
      refine lv_aload_n hx hb d_Mo_invert_47 rfl (lv_at hl 0 rfl) ?_
      refine kq_get hx hb hts kt_F_Mo hown hK hO3 rfl 0 (by decide) kt_w376 rfl d_Mo_invert_48 ?_
      refine lv_iload_n hx hb d_Mo_invert_51 rfl (lv_at hl 1 rfl) ?_
      refine lv_iconst (v := nI 3) hx hb d_Mo_invert_52 (by decide) ?_
      refine lv_iand hx hb d_Mo_invert_53 ?_
      refine kq_ri (show r &&& (nI 3) = nI (kx3 r) from kx_and3 r) ?_
      refine kq_aald hx hb (haf) rfl (kx3_lt r) (by decide) (rfl) d_Mo_invert_54 ?_
      refine lv_aload_n hx hb d_Mo_invert_55 rfl (lv_at hl 0 rfl) ?_
      refine kq_get hx hb hts kt_F_Mo hown hK hO3 rfl 16 (by decide) kt_w392 rfl d_Mo_invert_56 ?_
      refine kq_call (va_runS (As := [.ref (mo + 2 + kx3 r), .ref (mo + 29)]) (rest := []) ⟨hx, hb, hml, hown, hts⟩ (c_Mo_copy l _ (ks_c E) (mo + 2 + kx3 r) (mo + 29) _ _ (ks_row hW3 hro)) (va_cwS 2 hts (kt_inS kt_w461 kt_w459 kt_w460 kt_w5) rfl rfl rfl (by decide +kernel) ⟨Nat.le_of_ble_eq_true rfl, Nat.le_of_ble_eq_true rfl⟩) (kq_preS (kq_st_A.both kq_st_r) (⟨hT, hsf⟩)) rfl rfl hl.1 rfl (lv_room (Nat.le_of_ble_eq_true rfl)) d_Mo_invert_59 ⟨Nat.zero_le _, Nat.zero_le _⟩) (fun v9 H9 L4 hq9 hL4 => ?_)
      obtain ⟨rfl, rfl⟩ := hq9
      refine W.eq (g2 := F0 m 62 ls []) rfl ?_
      have hlc4 := t_lL (free := (fun q => q = mo + 2 + kx3 r ∨ ks_fr mo q)) hlc3 (fun q z => Or.inl (hL4 q z))
      refine lv_iconst (v := nI 1) hx hb d_Mo_invert_62 (by decide) ?_
      refine W.zret hx hb hret rfl (fun t ht _ => ⟨_, rfl, by rw [kq_z_t hZ], _, by rw [ht]; exact ks_put hE hW3 hro hlf, ?_, fun q q0 q1 => ?_⟩) hlc4 d_Mo_invert_63
      · rw [kq_up_at]
        rw [e3, if_neg hZ, f1]
      · rw [kq_up_ne q0]
        rw [o3 q (by unfold ks_fr at q1; omega) (by unfold ks_fr at q1; omega) (by unfold ks_fr at q1; omega) (by unfold ks_fr at q1; omega) (by unfold ks_fr at q1; omega)]
        exact k1 q q1
  · have hZ : v (mo + 2 + kx3 a) % kx_m d = 0 := by rw [← f1]; exact kq_z_ne.mp hz
    refine lv_iconst (v := nI 0) hx hb d_Mo_invert_20 (by decide) ?_
    exact W.zret hx hb hret rfl (fun t ht _ => ⟨_, rfl, by rw [kq_z_f (fun q => q hZ)], w1, by rw [ht]; exact hW1, by rw [if_pos hZ]; exact k1 _ (by unfold ks_fr; omega), fun q _ q1 => k1 q q1⟩) hlc2 d_Mo_invert_21
theorem d_Mo_root_0 : decode b_Mo_root 0 = .ok (.aload_n 0, 1) := by decide +kernel
theorem d_Mo_root_1 : decode b_Mo_root 1 = .ok (.aload_n 0, 1) := by decide +kernel
theorem d_Mo_root_2 : decode b_Mo_root 2 = .ok (.getfield 58, 3) := by decide +kernel
theorem d_Mo_root_5 : decode b_Mo_root 5 = .ok (.iload_n 2, 1) := by decide +kernel
theorem d_Mo_root_6 : decode b_Mo_root 6 = .ok (.iconst 0, 1) := by decide +kernel
theorem d_Mo_root_7 : decode b_Mo_root 7 = .ok (.invokevirtual 138, 3) := by decide +kernel
theorem d_Mo_root_10 : decode b_Mo_root 10 = .ok (.aload_n 0, 1) := by decide +kernel
theorem d_Mo_root_11 : decode b_Mo_root 11 = .ok (.aload_n 0, 1) := by decide +kernel
theorem d_Mo_root_12 : decode b_Mo_root 12 = .ok (.getfield 61, 3) := by decide +kernel
theorem d_Mo_root_15 : decode b_Mo_root 15 = .ok (.aload_n 0, 1) := by decide +kernel
theorem d_Mo_root_16 : decode b_Mo_root 16 = .ok (.getfield 58, 3) := by decide +kernel
theorem d_Mo_root_19 : decode b_Mo_root 19 = .ok (.invokevirtual 152, 3) := by decide +kernel
theorem d_Mo_root_22 : decode b_Mo_root 22 = .ok (.ifCond .ne 5, 3) := by decide +kernel
theorem d_Mo_root_25 : decode b_Mo_root 25 = .ok (.iconst 0, 1) := by decide +kernel
theorem d_Mo_root_26 : decode b_Mo_root 26 = .ok (.ireturn, 1) := by decide +kernel
theorem d_Mo_root_27 : decode b_Mo_root 27 = .ok (.aload_n 0, 1) := by decide +kernel
theorem d_Mo_root_28 : decode b_Mo_root 28 = .ok (.getfield 9, 3) := by decide +kernel
theorem d_Mo_root_31 : decode b_Mo_root 31 = .ok (.iload_n 1, 1) := by decide +kernel
theorem d_Mo_root_32 : decode b_Mo_root 32 = .ok (.iconst 3, 1) := by decide +kernel
theorem d_Mo_root_33 : decode b_Mo_root 33 = .ok (.iand, 1) := by decide +kernel
theorem d_Mo_root_34 : decode b_Mo_root 34 = .ok (.aaload, 1) := by decide +kernel
theorem d_Mo_root_35 : decode b_Mo_root 35 = .ok (.aload_n 0, 1) := by decide +kernel
theorem d_Mo_root_36 : decode b_Mo_root 36 = .ok (.getfield 61, 3) := by decide +kernel
theorem d_Mo_root_39 : decode b_Mo_root 39 = .ok (.invokestatic 104, 3) := by decide +kernel
theorem d_Mo_root_42 : decode b_Mo_root 42 = .ok (.iconst 1, 1) := by decide +kernel
theorem d_Mo_root_43 : decode b_Mo_root 43 = .ok (.ireturn, 1) := by decide +kernel
set_option maxHeartbeats 4000000 in
set_option maxRecDepth 100000 in
theorem c_Mo_root (l : Launch) (E : ks_E) (A : Nat → Nat) (mo : Nat) (far : Bool) (v : Nat → Nat) (H : Heap) (hE : ks_ok E) (hA : ks_A E A) (hO : ks_O E mo far) (hG : ks_G E mo) (hW : ks_W E v H) (r a : Int32) : Met l y_Mo_root w_Mo_root ({ frames := 5, cells := 0, slots := 0, locals := 115 }) (kq_P [.ref mo, .int r, .int a] H (ks_K E A mo)) (kq_Q (fun o1 H1 => o1 = some (.int (kq_z (decide (kc_root (v (mo + 2 + kx3 a)) * kc_root (v (mo + 2 + kx3 a)) % kP = v (mo + 2 + kx3 a) % kP)))) ∧ ∃ w : Nat → Nat, ks_W E w H1 ∧ w (mo + 2 + kx3 r) = (if kc_root (v (mo + 2 + kx3 a)) * kc_root (v (mo + 2 + kx3 a)) % kP = v (mo + 2 + kx3 a) % kP then kc_even (kc_root (v (mo + 2 + kx3 a))) else v (mo + 2 + kx3 r)) ∧ ∀ q, q ≠ mo + 2 + kx3 r → ¬ ks_fr mo q → w q = v q)) 0 0 (fun q => q = mo + 2 + kx3 r ∨ ks_fr mo q) := by
  refine Met.ofW (cc := b_Mo_root) (maxL := 3) (ret := (some .boolean)) (by decide) rfl ?_
  intro p e s m args below meth c s₁ B0 hml hv
  obtain ⟨rfl, hH, hKK⟩ := hv
  have hx := B0.exec
  have hb := B0.bytes
  have hret := B0.returns
  have hts := atoms_spec (ws := w_Mo_root) B0.pre
  have hown : s.vm.findClass R_Mo = some m.cls := findClass_of_methodNamed B0.named
  have hlocks := B0.notSynchronized
  rw [hH]
  have hl := lv_entry ([.ref mo, .int r, .int a]) (n := 3) (Nat.le_of_ble_eq_true rfl)
  rw [lg_entry_eq]
  generalize (lg_sl ([.ref mo, .int r, .int a]) ++ List.replicate (3 - (lg_sl ([.ref mo, .int r, .int a])).length) Slot.unset).toArray = ls at hl ⊢
  have hl : lv_has ls 3 [(0, .ref mo), (1, .int r), (2, .int a)] := hl
  have hC := hKK.1
  have hB := hC.1
  have hK := hB.1
  have hT := ks_T hE hB
  have hOo := ks_obj hW hO.1 hO.2.1
  have hlc0 : ∀ q ∈ ([] : List Loc), q.base = mo + 2 + kx3 r ∨ ks_fr mo q.base := fun q h => by cases h
  have ka := kx3_lt a
  have kr := kx3_lt r
  refine lv_aload_n hx hb d_Mo_root_0 rfl (lv_at hl 0 rfl) ?_
  refine lv_aload_n hx hb d_Mo_root_1 rfl (lv_at hl 0 rfl) ?_
  refine kq_get hx hb hts kt_F_Mo hown hK hOo rfl 15 (by decide) kt_w391 rfl d_Mo_root_2 ?_
  refine lv_iload_n hx hb d_Mo_root_5 rfl (lv_at hl 2 rfl) ?_
  refine lv_iconst (v := nI 0) hx hb d_Mo_root_6 (by decide) ?_
  refine kq_ri (show nI 0 = kq_z false from rfl) ?_
  refine kq_call (va_runV (As := [.ref (mo + 28), .int a, .int (kq_z false)]) (rest := []) ⟨hx, hb, hml, hown, hts⟩ (c_Mo_below l E A mo far v H hE hA hO hG hW (mo + 28) (hO.2.2.1 28 (by decide) (by decide) (by decide)) a false) (cwV 3 hts (kt_inV kt_w458 kt_w455 kt_w457 kt_s10 kt_w5) rfl rfl rfl (by decide +kernel) ⟨Nat.le_of_ble_eq_true rfl, Nat.le_of_ble_eq_true rfl⟩) (kq_preV ((ks_K_st E A mo)) (hKK) (kq_recv hK hOo rfl)) rfl rfl hl.1 rfl (lv_room (Nat.le_of_ble_eq_true rfl)) d_Mo_root_7 ⟨Nat.zero_le _, Nat.zero_le _⟩) (fun v9 H1 L1 hq1 hL1 => ?_)
  obtain ⟨rfl, hX1⟩ := hq1
  refine W.eq (g2 := F0 m 10 ls []) rfl ?_
  obtain ⟨w1, f1, o1, hW1⟩ : ∃ w : Nat → Nat, w (mo + 28) = v (mo + 2 + kx3 a) % kx_m false ∧ (∀ q, q ≠ mo + 28 → w q = v q) ∧ ks_W E w H1 := ⟨_, kq_up_at, fun q hq => kq_up_ne hq, hX1⟩
  have hO1 := ks_obj hW1 hO.1 hO.2.1
  have hlc1 := t_lL (free := (fun q => q = mo + 2 + kx3 r ∨ ks_fr mo q)) hlc0 (fun q z => Or.inr (by rw [hL1 q z]; unfold ks_fr; omega))
  have hkm : kx_m false = kP := rfl
  rw [hkm] at f1
  have h28 := hO.2.2.1 28 (by decide) (by decide) (by decide)
  have h29 := hO.2.2.1 29 (by decide) (by decide) (by decide)
  have l28 : w1 (mo + 28) < kP := by rw [f1]; exact Nat.mod_lt _ (by decide)
  have k1 : ∀ q, ¬ ks_fr mo q → w1 q = v q := fun q hq => o1 q (by unfold ks_fr at hq; omega)
  have hRT : (kc_root (w1 (mo + 28)) * kc_root (w1 (mo + 28)) % kP = w1 (mo + 28) % kP) = (kc_root (v (mo + 2 + kx3 a)) * kc_root (v (mo + 2 + kx3 a)) % kP = v (mo + 2 + kx3 a) % kP) := by rw [f1, kx_root_mod, Nat.mod_mod]
  refine lv_aload_n hx hb d_Mo_root_10 rfl (lv_at hl 0 rfl) ?_
  refine lv_aload_n hx hb d_Mo_root_11 rfl (lv_at hl 0 rfl) ?_
  refine kq_get hx hb hts kt_F_Mo hown hK hO1 rfl 16 (by decide) kt_w392 rfl d_Mo_root_12 ?_
  refine lv_aload_n hx hb d_Mo_root_15 rfl (lv_at hl 0 rfl) ?_
  refine kq_get hx hb hts kt_F_Mo hown hK hO1 rfl 15 (by decide) kt_w391 rfl d_Mo_root_16 ?_
  refine kq_call (va_runV (As := [.ref (mo + 29), .ref (mo + 28)]) (rest := []) ⟨hx, hb, hml, hown, hts⟩ (c_Mo_isRoot l E A mo far w1 H1 hE hA hO hW1 (mo + 29) (mo + 28) h29 (Or.inl h28) l28 (by omega) (by omega) (by omega) (by omega) (by omega)) (cwV 2 hts (kt_inV kt_w525 kt_w522 kt_w524 kt_s15 kt_w5) rfl rfl rfl (by decide +kernel) ⟨Nat.le_of_ble_eq_true rfl, Nat.le_of_ble_eq_true rfl⟩) (kq_preV ((ks_C_st E A)) (hC) (kq_recv hK hO1 rfl)) rfl rfl hl.1 rfl (lv_room (Nat.le_of_ble_eq_true rfl)) d_Mo_root_19 ⟨Nat.zero_le _, Nat.zero_le _⟩) (fun v9 H2 L2 hq2 hL2 => ?_)
  obtain ⟨rfl, w2, hW2, e2, o2⟩ := hq2
  refine W.eq (g2 := F0 m 22 ls [.int (kq_z (decide (kc_root (w1 (mo + 28)) * kc_root (w1 (mo + 28)) % kP = w1 (mo + 28) % kP)))]) rfl ?_
  have hO2 := ks_obj hW2 hO.1 hO.2.1
  have hlc2 := t_lL (free := (fun q => q = mo + 2 + kx3 r ∨ ks_fr mo q)) hlc1 (fun q z => Or.inr (by rcases hL2 q z with y | y | y | y <;> (rw [y]; unfold ks_fr; omega)))
  have k2 : ∀ q, ¬ ks_fr mo q → w2 q = v q := fun q hq => by rw [o2 q (by unfold ks_fr at hq; omega) (by unfold ks_fr at hq; omega) (by unfold ks_fr at hq; omega) (by unfold ks_fr at hq; omega)]; exact k1 q hq
  refine lv_if_ne hx hb d_Mo_root_22 rfl (fun hz => ?_) (fun hz => ?_)
  · have hR1 := kq_z_ne.mp hz
    have hR : kc_root (v (mo + 2 + kx3 a)) * kc_root (v (mo + 2 + kx3 a)) % kP = v (mo + 2 + kx3 a) % kP := hRT.mp hR1
    have e3 := e2 hR1
    rw [f1, kx_root_mod] at e3
    have hro := (hG.1 (kx3 r) (kx3_lt r)).1
    have hsf := ks_src hE hW2 hB (Or.inl (hO.2.2.1 29 (by decide) (by decide) (by decide)))
    have hlf := ks_lt hE hW2 (Or.inl (hO.2.2.1 29 (by decide) (by decide) (by decide)))
    have haf := hKK.2.1.other (hW2.2.2.1 (mo + 1) hG.2.1)
    refine lv_aload_n hx hb d_Mo_root_27 rfl (lv_at hl 0 rfl) ?_
    refine kq_get hx hb hts kt_F_Mo hown hK hO2 rfl 0 (by decide) kt_w376 rfl d_Mo_root_28 ?_
    refine lv_iload_n hx hb d_Mo_root_31 rfl (lv_at hl 1 rfl) ?_
    refine lv_iconst (v := nI 3) hx hb d_Mo_root_32 (by decide) ?_
    refine lv_iand hx hb d_Mo_root_33 ?_
    refine kq_ri (show r &&& (nI 3) = nI (kx3 r) from kx_and3 r) ?_
    refine kq_aald hx hb (haf) rfl (kx3_lt r) (by decide) (rfl) d_Mo_root_34 ?_
    refine lv_aload_n hx hb d_Mo_root_35 rfl (lv_at hl 0 rfl) ?_
    refine kq_get hx hb hts kt_F_Mo hown hK hO2 rfl 16 (by decide) kt_w392 rfl d_Mo_root_36 ?_
    refine kq_call (va_runS (As := [.ref (mo + 2 + kx3 r), .ref (mo + 29)]) (rest := []) ⟨hx, hb, hml, hown, hts⟩ (c_Mo_copy l _ (ks_c E) (mo + 2 + kx3 r) (mo + 29) _ _ (ks_row hW2 hro)) (va_cwS 2 hts (kt_inS kt_w461 kt_w459 kt_w460 kt_w5) rfl rfl rfl (by decide +kernel) ⟨Nat.le_of_ble_eq_true rfl, Nat.le_of_ble_eq_true rfl⟩) (kq_preS (kq_st_A.both kq_st_r) (⟨hT, hsf⟩)) rfl rfl hl.1 rfl (lv_room (Nat.le_of_ble_eq_true rfl)) d_Mo_root_39 ⟨Nat.zero_le _, Nat.zero_le _⟩) (fun v9 H9 L3 hq9 hL3 => ?_)
    obtain ⟨rfl, rfl⟩ := hq9
    refine W.eq (g2 := F0 m 42 ls []) rfl ?_
    have hlc3 := t_lL (free := (fun q => q = mo + 2 + kx3 r ∨ ks_fr mo q)) hlc2 (fun q z => Or.inl (hL3 q z))
    refine lv_iconst (v := nI 1) hx hb d_Mo_root_42 (by decide) ?_
    refine W.zret hx hb hret rfl (fun t ht _ => ⟨_, rfl, by rw [kq_z_t hR], _, by rw [ht]; exact ks_put hE hW2 hro hlf, ?_, fun q q0 q1 => ?_⟩) hlc3 d_Mo_root_43
    · rw [kq_up_at]
      rw [e3, if_pos hR]
    · rw [kq_up_ne q0]
      exact k2 q q1
  · have hR1 := kq_z_eq.mp hz
    have hR : ¬ (kc_root (v (mo + 2 + kx3 a)) * kc_root (v (mo + 2 + kx3 a)) % kP = v (mo + 2 + kx3 a) % kP) := fun q => hR1 (hRT.mpr q)
    refine lv_iconst (v := nI 0) hx hb d_Mo_root_25 (by decide) ?_
    exact W.zret hx hb hret rfl (fun t ht _ => ⟨_, rfl, by rw [kq_z_f hR], w2, by rw [ht]; exact hW2, by rw [if_neg hR]; exact k2 _ (by unfold ks_fr; omega), fun q _ q1 => k2 q q1⟩) hlc2 d_Mo_root_26
