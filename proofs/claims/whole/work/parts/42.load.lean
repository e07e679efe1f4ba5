/-! KeyCurveModel: load (own rows). -/
theorem kx_nz (b : Bool) : narrow .boolean (.int (kq_z b)) = .int (kq_z b) := by cases b <;> rfl
theorem kx_fz (b : Bool) : fits .boolean (.int (kq_z b)) = true := by cases b <;> rfl
theorem d_Mo_load_0 : decode b_Mo_load 0 = .ok (.aload_n 0, 1) := by decide +kernel
theorem d_Mo_load_1 : decode b_Mo_load 1 = .ok (.aload_n 0, 1) := by decide +kernel
theorem d_Mo_load_2 : decode b_Mo_load 2 = .ok (.getfield 20, 3) := by decide +kernel
theorem d_Mo_load_5 : decode b_Mo_load 5 = .ok (.iload_n 1, 1) := by decide +kernel
theorem d_Mo_load_6 : decode b_Mo_load 6 = .ok (.iconst 3, 1) := by decide +kernel
theorem d_Mo_load_7 : decode b_Mo_load 7 = .ok (.iand, 1) := by decide +kernel
theorem d_Mo_load_8 : decode b_Mo_load 8 = .ok (.baload, 1) := by decide +kernel
theorem d_Mo_load_9 : decode b_Mo_load 9 = .ok (.putfield 118, 3) := by decide +kernel
theorem d_Mo_load_12 : decode b_Mo_load 12 = .ok (.aload_n 0, 1) := by decide +kernel
theorem d_Mo_load_13 : decode b_Mo_load 13 = .ok (.getfield 52, 3) := by decide +kernel
theorem d_Mo_load_16 : decode b_Mo_load 16 = .ok (.aload_n 0, 1) := by decide +kernel
theorem d_Mo_load_17 : decode b_Mo_load 17 = .ok (.getfield 14, 3) := by decide +kernel
theorem d_Mo_load_20 : decode b_Mo_load 20 = .ok (.iload_n 1, 1) := by decide +kernel
theorem d_Mo_load_21 : decode b_Mo_load 21 = .ok (.iconst 3, 1) := by decide +kernel
theorem d_Mo_load_22 : decode b_Mo_load 22 = .ok (.iand, 1) := by decide +kernel
theorem d_Mo_load_23 : decode b_Mo_load 23 = .ok (.aaload, 1) := by decide +kernel
theorem d_Mo_load_24 : decode b_Mo_load 24 = .ok (.invokestatic 104, 3) := by decide +kernel
theorem d_Mo_load_27 : decode b_Mo_load 27 = .ok (.aload_n 0, 1) := by decide +kernel
theorem d_Mo_load_28 : decode b_Mo_load 28 = .ok (.getfield 55, 3) := by decide +kernel
theorem d_Mo_load_31 : decode b_Mo_load 31 = .ok (.aload_n 0, 1) := by decide +kernel
theorem d_Mo_load_32 : decode b_Mo_load 32 = .ok (.getfield 17, 3) := by decide +kernel
theorem d_Mo_load_35 : decode b_Mo_load 35 = .ok (.iload_n 1, 1) := by decide +kernel
theorem d_Mo_load_36 : decode b_Mo_load 36 = .ok (.iconst 3, 1) := by decide +kernel
theorem d_Mo_load_37 : decode b_Mo_load 37 = .ok (.iand, 1) := by decide +kernel
theorem d_Mo_load_38 : decode b_Mo_load 38 = .ok (.aaload, 1) := by decide +kernel
theorem d_Mo_load_39 : decode b_Mo_load 39 = .ok (.invokestatic 104, 3) := by decide +kernel
theorem d_Mo_load_42 : decode b_Mo_load 42 = .ok (.return_, 1) := by decide +kernel
set_option maxHeartbeats 4000000 in
set_option maxRecDepth 100000 in
theorem c_Mo_load (l : Launch) (E : ks_E) (A : Nat → Nat) (mo : Nat) (cZ : ClassId) (far : Bool) (bs : Nat → Bool) (v : Nat → Nat) (H : Heap) (hE : ks_ok E) (hA : ks_A E A) (hG : ks_G E mo) (hF : ks_F E mo cZ far bs) (hW : ks_W E v H) (i : Int32) : Met l y_Mo_load w_Mo_load ({ frames := 2, cells := 0, slots := 0, locals := 41 }) (kq_P [.ref mo, .int i] H (ks_KZ E A mo cZ)) (kq_Q (fun o1 H1 => o1 = none ∧ ks_X E mo cZ (bs (kx3 i)) bs (va_up (va_up v (mo + 26) (v (mo + 7 + kx3 i))) (mo + 27) (v (mo + 12 + kx3 i))) H1)) 0 0 (fun x => x = mo ∨ x = mo + 26 ∨ x = mo + 27) := by
  refine Met.ofW (cc := b_Mo_load) (maxL := 2) (ret := none) (by decide) rfl ?_
  intro p e s m args below meth c s₁ B0 hml hv
  obtain ⟨rfl, hH, hKZ⟩ := hv
  have hx := B0.exec
  have hb := B0.bytes
  have hret := B0.returns
  have hts := atoms_spec (ws := w_Mo_load) B0.pre
  have hown : s.vm.findClass R_Mo = some m.cls := findClass_of_methodNamed B0.named
  have hlocks := B0.notSynchronized
  rw [hH]
  have hl := lv_entry ([.ref mo, .int i]) (n := 2) (Nat.le_of_ble_eq_true rfl)
  rw [lg_entry_eq]
  generalize (lg_sl ([.ref mo, .int i]) ++ List.replicate (2 - (lg_sl ([.ref mo, .int i])).length) Slot.unset).toArray = ls at hl ⊢
  have hl : lv_has ls 2 [(0, .ref mo), (1, .int i)] := hl
  have hKK := hKZ.1
  have hC := hKK.1
  have hB := hC.1
  have hK := hB.1
  have hT := ks_T hE hB
  have hO := hF.1
  have hOo := ks_obj hW hO.1 hO.2.1
  have hNn : H[mo + 16]? = some (kq_B cZ bs) := (hW.2.2.1 _ hF.2.2.1).trans hF.2.1
  have hzr : kq_r s .boolean H (mo + 16) 4 (fun j => .int (kq_z (bs j))) := kq_r.ofV hKZ.2 hNn
  have har := hKK.2.1.other (hW.2.2.1 (mo + 1) hG.2.1)
  have hax := hKK.2.2.1.other (hW.2.2.1 (mo + 6) hG.2.2.1)
  have hay := hKK.2.2.2.other (hW.2.2.1 (mo + 11) hG.2.2.2)
  refine lv_aload_n hx hb d_Mo_load_0 rfl (lv_at hl 0 rfl) ?_
  refine lv_aload_n hx hb d_Mo_load_1 rfl (lv_at hl 0 rfl) ?_
  refine kq_get hx hb hts kt_F_Mo hown hK hOo rfl 3 (by decide) kt_w379 rfl d_Mo_load_2 ?_
  refine lv_iload_n hx hb d_Mo_load_5 rfl (lv_at hl 1 rfl) ?_
  refine lv_iconst (v := nI 3) hx hb d_Mo_load_6 (by decide) ?_
  refine lv_iand hx hb d_Mo_load_7 ?_
  refine kq_ri (show i &&& (nI 3) = nI (kx3 i) from kx_and3 i) ?_
  refine kq_zald hx hb hzr (kx3_lt i) (by decide) rfl d_Mo_load_8 ?_
  refine kq_put hx hb hts kt_F_Mo t_Mo t_Mo_ok n_Mo hown hK hOo rfl 17 (by decide) kt_w393 rfl (ty := .boolean) (by decide +kernel) (kx_nz _) (kx_fz _) (Nat.le_of_ble_eq_true rfl) d_Mo_load_9 (fun H1 L1 hP1 hz1 ho1 hL1 => ?_)
  obtain ⟨B, hlk, hW1, hF1⟩ := ks_X_new (far2 := bs (kx3 i)) (bs2 := bs) hW hF hz1 (fun x x1 _ => ho1 x x1) hP1 ((ho1 (mo + 16) (by omega)).trans hNn)
  have hK1 := ks_K_at hE hG hF hlk hKK
  have hB1 := hK1.1.1
  have hO1 := ks_obj hW1 hF1.1.1 hF1.1.2.1
  have hax1 := hK1.2.2.1.other (hW1.2.2.1 (mo + 6) hG.2.2.1)
  have ki := kx3_lt i
  have hxo : ks_out (ks_at E B) (mo + 7 + kx3 i) := (hG.1 (kx3 i) ki).2.1
  have hyo : ks_out (ks_at E B) (mo + 12 + kx3 i) := (hG.1 (kx3 i) ki).2.2
  have h26 := hF1.1.2.2.1 26 (by decide) (by decide) (by decide)
  have h27 := hF1.1.2.2.1 27 (by decide) (by decide) (by decide)
  have hE1 : ks_ok (ks_at E B) := hE
  have sx := ks_src hE1 hW1 hB1 (Or.inl hxo)
  have lx := ks_lt hE1 hW1 (Or.inl hxo)
  have ly := ks_lt hE1 hW1 (Or.inl hyo)
  have hW2 := ks_put hE1 hW1 h26 lx
  have hO2 := ks_obj hW2 hF1.1.1 hF1.1.2.1
  have hay2 := hK1.2.2.2.other (hW2.2.2.1 (mo + 11) hG.2.2.2)
  have sy := ks_src hE1 hW2 hB1 (Or.inl hyo)
  rw [kq_up_ne (by omega)] at sy
  have hW3 := ks_put hE1 hW2 h27 ly
  refine lv_aload_n hx hb d_Mo_load_12 rfl (lv_at hl 0 rfl) ?_
  refine kq_get hx hb hts kt_F_Mo hown hK hO1 rfl 13 (by decide) kt_w389 rfl d_Mo_load_13 ?_
  refine lv_aload_n hx hb d_Mo_load_16 rfl (lv_at hl 0 rfl) ?_
  refine kq_get hx hb hts kt_F_Mo hown hK hO1 rfl 1 (by decide) kt_w377 rfl d_Mo_load_17 ?_
  refine lv_iload_n hx hb d_Mo_load_20 rfl (lv_at hl 1 rfl) ?_
  refine lv_iconst (v := nI 3) hx hb d_Mo_load_21 (by decide) ?_
  refine lv_iand hx hb d_Mo_load_22 ?_
  refine kq_ri (show i &&& (nI 3) = nI (kx3 i) from kx_and3 i) ?_
  refine kq_aald hx hb (hax1) rfl (kx3_lt i) (by decide) (rfl) d_Mo_load_23 ?_
  refine kq_call (va_runS (As := [.ref (mo + 26), .ref (mo + 7 + kx3 i)]) (rest := []) ⟨hx, hb, hml, hown, hts⟩ (c_Mo_copy l H1 (ks_c (ks_at E B)) (mo + 26) (mo + 7 + kx3 i) _ (v (mo + 7 + kx3 i)) (ks_row hW1 h26)) (va_cwS 2 hts (kt_inS kt_w461 kt_w459 kt_w460 kt_w5) rfl rfl rfl (by decide +kernel) ⟨Nat.le_of_ble_eq_true rfl, Nat.le_of_ble_eq_true rfl⟩) (kq_preS (kq_st_A.both kq_st_r) (⟨hT, sx⟩)) rfl rfl hl.1 rfl (lv_room (Nat.le_of_ble_eq_true rfl)) d_Mo_load_24 ⟨Nat.zero_le _, Nat.zero_le _⟩) (fun v9 H9 L2 hq9 hL2 => ?_)
  obtain ⟨rfl, rfl⟩ := hq9
  refine W.eq (g2 := F0 m 27 ls []) rfl ?_
  refine lv_aload_n hx hb d_Mo_load_27 rfl (lv_at hl 0 rfl) ?_
  refine kq_get hx hb hts kt_F_Mo hown hK hO2 rfl 14 (by decide) kt_w390 rfl d_Mo_load_28 ?_
  refine lv_aload_n hx hb d_Mo_load_31 rfl (lv_at hl 0 rfl) ?_
  refine kq_get hx hb hts kt_F_Mo hown hK hO2 rfl 2 (by decide) kt_w378 rfl d_Mo_load_32 ?_
  refine lv_iload_n hx hb d_Mo_load_35 rfl (lv_at hl 1 rfl) ?_
  refine lv_iconst (v := nI 3) hx hb d_Mo_load_36 (by decide) ?_
  refine lv_iand hx hb d_Mo_load_37 ?_
  refine kq_ri (show i &&& (nI 3) = nI (kx3 i) from kx_and3 i) ?_
  refine kq_aald hx hb (hay2) rfl (kx3_lt i) (by decide) (rfl) d_Mo_load_38 ?_
  refine kq_call (va_runS (As := [.ref (mo + 27), .ref (mo + 12 + kx3 i)]) (rest := []) ⟨hx, hb, hml, hown, hts⟩ (c_Mo_copy l _ (ks_c (ks_at E B)) (mo + 27) (mo + 12 + kx3 i) _ (v (mo + 12 + kx3 i)) (ks_row hW2 h27)) (va_cwS 2 hts (kt_inS kt_w461 kt_w459 kt_w460 kt_w5) rfl rfl rfl (by decide +kernel) ⟨Nat.le_of_ble_eq_true rfl, Nat.le_of_ble_eq_true rfl⟩) (kq_preS (kq_st_A.both kq_st_r) (⟨hT, sy⟩)) rfl rfl hl.1 rfl (lv_room (Nat.le_of_ble_eq_true rfl)) d_Mo_load_39 ⟨Nat.zero_le _, Nat.zero_le _⟩) (fun v9 H9 L3 hq9 hL3 => ?_)
  obtain ⟨rfl, rfl⟩ := hq9
  refine W.eq (g2 := F0 m 42 ls []) rfl ?_
  exact W.vret hx hb hret (fun t ht _ => ⟨_, rfl, rfl, by rw [ht]; exact ⟨B, hlk, hW3, hF1⟩⟩) (t_lL (free := (fun x => x = mo ∨ x = mo + 26 ∨ x = mo + 27)) (t_lL (free := (fun x => x = mo ∨ x = mo + 26 ∨ x = mo + 27)) (t_lL (free := (fun x => x = mo ∨ x = mo + 26 ∨ x = mo + 27)) (fun q h => by cases h) (fun q z => Or.inl (hL1 q z))) (fun q z => Or.inr (Or.inl (hL2 q z)))) (fun q z => Or.inr (Or.inr (hL3 q z)))) d_Mo_load_42
