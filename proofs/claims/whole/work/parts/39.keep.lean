/-! KeyCurveModel: keep, base, same (own rows). -/
theorem d_Mo_keep_0 : decode b_Mo_keep 0 = .ok (.aload_n 0, 1) := by decide +kernel
theorem d_Mo_keep_1 : decode b_Mo_keep 1 = .ok (.getfield 14, 3) := by decide +kernel
theorem d_Mo_keep_4 : decode b_Mo_keep 4 = .ok (.iload_n 1, 1) := by decide +kernel
theorem d_Mo_keep_5 : decode b_Mo_keep 5 = .ok (.iconst 3, 1) := by decide +kernel
theorem d_Mo_keep_6 : decode b_Mo_keep 6 = .ok (.iand, 1) := by decide +kernel
theorem d_Mo_keep_7 : decode b_Mo_keep 7 = .ok (.aaload, 1) := by decide +kernel
theorem d_Mo_keep_8 : decode b_Mo_keep 8 = .ok (.aload_n 2, 1) := by decide +kernel
theorem d_Mo_keep_9 : decode b_Mo_keep 9 = .ok (.invokestatic 104, 3) := by decide +kernel
theorem d_Mo_keep_12 : decode b_Mo_keep 12 = .ok (.aload_n 0, 1) := by decide +kernel
theorem d_Mo_keep_13 : decode b_Mo_keep 13 = .ok (.getfield 17, 3) := by decide +kernel
theorem d_Mo_keep_16 : decode b_Mo_keep 16 = .ok (.iload_n 1, 1) := by decide +kernel
theorem d_Mo_keep_17 : decode b_Mo_keep 17 = .ok (.iconst 3, 1) := by decide +kernel
theorem d_Mo_keep_18 : decode b_Mo_keep 18 = .ok (.iand, 1) := by decide +kernel
theorem d_Mo_keep_19 : decode b_Mo_keep 19 = .ok (.aaload, 1) := by decide +kernel
theorem d_Mo_keep_20 : decode b_Mo_keep 20 = .ok (.aload_n 3, 1) := by decide +kernel
theorem d_Mo_keep_21 : decode b_Mo_keep 21 = .ok (.invokestatic 104, 3) := by decide +kernel
theorem d_Mo_keep_24 : decode b_Mo_keep 24 = .ok (.aload_n 0, 1) := by decide +kernel
theorem d_Mo_keep_25 : decode b_Mo_keep 25 = .ok (.getfield 20, 3) := by decide +kernel
theorem d_Mo_keep_28 : decode b_Mo_keep 28 = .ok (.iload_n 1, 1) := by decide +kernel
theorem d_Mo_keep_29 : decode b_Mo_keep 29 = .ok (.iconst 3, 1) := by decide +kernel
theorem d_Mo_keep_30 : decode b_Mo_keep 30 = .ok (.iand, 1) := by decide +kernel
theorem d_Mo_keep_31 : decode b_Mo_keep 31 = .ok (.iconst 0, 1) := by decide +kernel
theorem d_Mo_keep_32 : decode b_Mo_keep 32 = .ok (.bastore, 1) := by decide +kernel
theorem d_Mo_keep_33 : decode b_Mo_keep 33 = .ok (.return_, 1) := by decide +kernel
set_option maxHeartbeats 4000000 in
set_option maxRecDepth 100000 in
theorem c_Mo_keep (l : Launch) (E : ks_E) (A : Nat → Nat) (mo : Nat) (cZ : ClassId) (far : Bool) (bs : Nat → Bool) (v : Nat → Nat) (H : Heap) (hE : ks_ok E) (hA : ks_A E A) (hG : ks_G E mo) (hF : ks_F E mo cZ far bs) (hW : ks_W E v H) (i : Int32) (ax ay : Nat) (hax0 : ks_in E ax) (hay0 : ks_in E ay) (hne : ay ≠ mo + 7 + kx3 i) : Met l y_Mo_keep w_Mo_keep ({ frames := 2, cells := 0, slots := 0, locals := 41 }) (kq_P [.ref mo, .int i, .ref ax, .ref ay] H (ks_KZ E A mo cZ)) (kq_Q (fun o1 H1 => o1 = none ∧ ks_X E mo cZ far (kx_ub bs (kx3 i) false) (va_up (va_up v (mo + 7 + kx3 i) (v ax)) (mo + 12 + kx3 i) (v ay)) H1)) 0 0 (fun x => x = mo + 7 + kx3 i ∨ x = mo + 12 + kx3 i ∨ x = mo + 16) := by
  refine Met.ofW (cc := b_Mo_keep) (maxL := 4) (ret := none) (by decide) rfl ?_
  intro p e s m args below meth c s₁ B0 hml hv
  obtain ⟨rfl, hH, hKZ⟩ := hv
  have hx := B0.exec
  have hb := B0.bytes
  have hret := B0.returns
  have hts := atoms_spec (ws := w_Mo_keep) B0.pre
  have hown : s.vm.findClass R_Mo = some m.cls := findClass_of_methodNamed B0.named
  have hlocks := B0.notSynchronized
  rw [hH]
  have hl := lv_entry ([.ref mo, .int i, .ref ax, .ref ay]) (n := 4) (Nat.le_of_ble_eq_true rfl)
  rw [lg_entry_eq]
  generalize (lg_sl ([.ref mo, .int i, .ref ax, .ref ay]) ++ List.replicate (4 - (lg_sl ([.ref mo, .int i, .ref ax, .ref ay])).length) Slot.unset).toArray = ls at hl ⊢
  have hl : lv_has ls 4 [(0, .ref mo), (1, .int i), (2, .ref ax), (3, .ref ay)] := hl
  have hKK := hKZ.1
  have hC := hKK.1
  have hB := hC.1
  have hK := hB.1
  have hT := ks_T hE hB
  have hO := hF.1
  have hOo := ks_obj hW hO.1 hO.2.1
  have hNn : H[mo + 16]? = some (kq_B cZ bs) := (hW.2.2.1 _ hF.2.2.1).trans hF.2.1
  have hzr : kq_r s .boolean H (mo + 16) 4 (fun j => .int (kq_z (bs j))) := kq_r.ofV hKZ.2 hNn
  have har := hKK.2.1.other (hW.2.2.1 (mo + 1) hG.2.1)
  have hax := hKK.2.2.1.other (hW.2.2.1 (mo + 6) hG.2.2.1)
  have hay := hKK.2.2.2.other (hW.2.2.1 (mo + 11) hG.2.2.2)
  have ki := kx3_lt i
  have hxo := (hG.1 (kx3 i) ki).2.1
  have hyo := (hG.1 (kx3 i) ki).2.2
  have sx := ks_src hE hW hB hax0
  have lx := ks_lt hE hW hax0
  have ly := ks_lt hE hW hay0
  have hW1 := ks_put hE hW hxo lx
  have hO1 := ks_obj hW1 hO.1 hO.2.1
  have sy := ks_src hE hW1 hB hay0
  rw [kq_up_ne hne] at sy
  have hay1 := hKK.2.2.2.other (hW1.2.2.1 (mo + 11) hG.2.2.2)
  have hW2 := ks_put hE hW1 hyo ly
  have hO2 := ks_obj hW2 hO.1 hO.2.1
  refine lv_aload_n hx hb d_Mo_keep_0 rfl (lv_at hl 0 rfl) ?_
  refine kq_get hx hb hts kt_F_Mo hown hK hOo rfl 1 (by decide) kt_w377 rfl d_Mo_keep_1 ?_
  refine lv_iload_n hx hb d_Mo_keep_4 rfl (lv_at hl 1 rfl) ?_
  refine lv_iconst (v := nI 3) hx hb d_Mo_keep_5 (by decide) ?_
  refine lv_iand hx hb d_Mo_keep_6 ?_
  refine kq_ri (show i &&& (nI 3) = nI (kx3 i) from kx_and3 i) ?_
  refine kq_aald hx hb (hax) rfl (kx3_lt i) (by decide) (rfl) d_Mo_keep_7 ?_
  refine lv_aload_n hx hb d_Mo_keep_8 rfl (lv_at hl 2 rfl) ?_
  refine kq_call (va_runS (As := [.ref (mo + 7 + kx3 i), .ref ax]) (rest := []) ⟨hx, hb, hml, hown, hts⟩ (c_Mo_copy l H (ks_c E) (mo + 7 + kx3 i) ax _ (v ax) (ks_row hW hxo)) (va_cwS 2 hts (kt_inS kt_w461 kt_w459 kt_w460 kt_w5) rfl rfl rfl (by decide +kernel) ⟨Nat.le_of_ble_eq_true rfl, Nat.le_of_ble_eq_true rfl⟩) (kq_preS (kq_st_A.both kq_st_r) (⟨hT, sx⟩)) rfl rfl hl.1 rfl (lv_room (Nat.le_of_ble_eq_true rfl)) d_Mo_keep_9 ⟨Nat.zero_le _, Nat.zero_le _⟩) (fun v9 H9 L1 hq9 hL1 => ?_)
  obtain ⟨rfl, rfl⟩ := hq9
  refine W.eq (g2 := F0 m 12 ls []) rfl ?_
  refine lv_aload_n hx hb d_Mo_keep_12 rfl (lv_at hl 0 rfl) ?_
  refine kq_get hx hb hts kt_F_Mo hown hK hO1 rfl 2 (by decide) kt_w378 rfl d_Mo_keep_13 ?_
  refine lv_iload_n hx hb d_Mo_keep_16 rfl (lv_at hl 1 rfl) ?_
  refine lv_iconst (v := nI 3) hx hb d_Mo_keep_17 (by decide) ?_
  refine lv_iand hx hb d_Mo_keep_18 ?_
  refine kq_ri (show i &&& (nI 3) = nI (kx3 i) from kx_and3 i) ?_
  refine kq_aald hx hb (hay1) rfl (kx3_lt i) (by decide) (rfl) d_Mo_keep_19 ?_
  refine lv_aload_n hx hb d_Mo_keep_20 rfl (lv_at hl 3 rfl) ?_
  refine kq_call (va_runS (As := [.ref (mo + 12 + kx3 i), .ref ay]) (rest := []) ⟨hx, hb, hml, hown, hts⟩ (c_Mo_copy l _ (ks_c E) (mo + 12 + kx3 i) ay _ (v ay) (ks_row hW1 hyo)) (va_cwS 2 hts (kt_inS kt_w461 kt_w459 kt_w460 kt_w5) rfl rfl rfl (by decide +kernel) ⟨Nat.le_of_ble_eq_true rfl, Nat.le_of_ble_eq_true rfl⟩) (kq_preS (kq_st_A.both kq_st_r) (⟨hT, sy⟩)) rfl rfl hl.1 rfl (lv_room (Nat.le_of_ble_eq_true rfl)) d_Mo_keep_21 ⟨Nat.zero_le _, Nat.zero_le _⟩) (fun v9 H9 L2 hq9 hL2 => ?_)
  obtain ⟨rfl, rfl⟩ := hq9
  refine W.eq (g2 := F0 m 24 ls []) rfl ?_
  refine lv_aload_n hx hb d_Mo_keep_24 rfl (lv_at hl 0 rfl) ?_
  refine kq_get hx hb hts kt_F_Mo hown hK hO2 rfl 3 (by decide) kt_w379 rfl d_Mo_keep_25 ?_
  refine lv_iload_n hx hb d_Mo_keep_28 rfl (lv_at hl 1 rfl) ?_
  refine lv_iconst (v := nI 3) hx hb d_Mo_keep_29 (by decide) ?_
  refine lv_iand hx hb d_Mo_keep_30 ?_
  refine kq_ri (show i &&& (nI 3) = nI (kx3 i) from kx_and3 i) ?_
  refine lv_iconst (v := nI 0) hx hb d_Mo_keep_31 (by decide) ?_
  refine kq_ri (show nI 0 = kq_z false from rfl) ?_
  refine kq_zast hx hb hKZ.2 ((hW2.2.2.1 _ hF.2.2.1).trans hF.2.1) (kx3_lt i) d_Mo_keep_32 (fun H1 e1 e2 e3 => ?_)
  refine W.vret hx hb hret (fun t ht _ => ⟨_, rfl, rfl, ?_⟩) (t_lc (free := (fun x => x = mo + 7 + kx3 i ∨ x = mo + 12 + kx3 i ∨ x = mo + 16)) (t_lL (free := (fun x => x = mo + 7 + kx3 i ∨ x = mo + 12 + kx3 i ∨ x = mo + 16)) (t_lL (free := (fun x => x = mo + 7 + kx3 i ∨ x = mo + 12 + kx3 i ∨ x = mo + 16)) (fun q h => by cases h) (fun q z => Or.inl (hL1 q z))) (fun q z => Or.inr (Or.inl (hL2 q z)))) (Or.inr (Or.inr rfl))) d_Mo_keep_33
  rw [ht]
  exact ks_X_new hW2 hF e2 (fun x _ x2 => e3 x x2) (hO2.kept (fun k z hk => by
    have h0 : k < 1 := (List.getElem?_eq_some_iff.mp hk).1
    rw [show k = 0 by omega] at hk
    cases hk
    exact e3 mo (by omega))) e1
theorem d_Mo_base_0 : decode b_Mo_base 0 = .ok (.aload_n 0, 1) := by decide +kernel
theorem d_Mo_base_1 : decode b_Mo_base 1 = .ok (.iload_n 1, 1) := by decide +kernel
theorem d_Mo_base_2 : decode b_Mo_base 2 = .ok (.getstatic 156, 3) := by decide +kernel
theorem d_Mo_base_5 : decode b_Mo_base 5 = .ok (.getstatic 159, 3) := by decide +kernel
theorem d_Mo_base_8 : decode b_Mo_base 8 = .ok (.invokevirtual 162, 3) := by decide +kernel
theorem d_Mo_base_11 : decode b_Mo_base 11 = .ok (.return_, 1) := by decide +kernel
set_option maxHeartbeats 4000000 in
set_option maxRecDepth 100000 in
theorem c_Mo_base (l : Launch) (E : ks_E) (A : Nat → Nat) (mo : Nat) (cZ : ClassId) (far : Bool) (bs : Nat → Bool) (v : Nat → Nat) (H : Heap) (hE : ks_ok E) (hA : ks_A E A) (hG : ks_G E mo) (hF : ks_F E mo cZ far bs) (hW : ks_W E v H) (i : Int32) : Met l y_Mo_base w_Mo_base ({ frames := 3, cells := 0, slots := 0, locals := 64 }) (kq_P [.ref mo, .int i] H (ks_KZ E A mo cZ)) (kq_Q (fun o1 H1 => o1 = none ∧ ks_X E mo cZ far (kx_ub bs (kx3 i) false) (va_up (va_up v (mo + 7 + kx3 i) kX_G) (mo + 12 + kx3 i) kY_G) H1)) 0 0 (fun x => x = mo + 7 + kx3 i ∨ x = mo + 12 + kx3 i ∨ x = mo + 16) := by
  refine Met.ofW (cc := b_Mo_base) (maxL := 2) (ret := none) (by decide) rfl ?_
  intro p e s m args below meth c s₁ B0 hml hv
  obtain ⟨rfl, hH, hKZ⟩ := hv
  have hx := B0.exec
  have hb := B0.bytes
  have hret := B0.returns
  have hts := atoms_spec (ws := w_Mo_base) B0.pre
  have hown : s.vm.findClass R_Mo = some m.cls := findClass_of_methodNamed B0.named
  have hlocks := B0.notSynchronized
  rw [hH]
  have hl := lv_entry ([.ref mo, .int i]) (n := 2) (Nat.le_of_ble_eq_true rfl)
  rw [lg_entry_eq]
  generalize (lg_sl ([.ref mo, .int i]) ++ List.replicate (2 - (lg_sl ([.ref mo, .int i])).length) Slot.unset).toArray = ls at hl ⊢
  have hl : lv_has ls 2 [(0, .ref mo), (1, .int i)] := hl
  have hKK := hKZ.1
  have hC := hKK.1
  have hB := hC.1
  have hK := hB.1
  have hT := ks_T hE hB
  have hO := hF.1
  have hOo := ks_obj hW hO.1 hO.2.1
  have hNn : H[mo + 16]? = some (kq_B cZ bs) := (hW.2.2.1 _ hF.2.2.1).trans hF.2.1
  have hzr : kq_r s .boolean H (mo + 16) 4 (fun j => .int (kq_z (bs j))) := kq_r.ofV hKZ.2 hNn
  have har := hKK.2.1.other (hW.2.2.1 (mo + 1) hG.2.1)
  have hax := hKK.2.2.1.other (hW.2.2.1 (mo + 6) hG.2.2.1)
  have hay := hKK.2.2.2.other (hW.2.2.1 (mo + 11) hG.2.2.2)
  have hne : A 3 ≠ mo + 7 + kx3 i := fun q => hE.1 _ hA.2.2.2.1 (by rw [q]; exact (hG.1 (kx3 i) (kx3_lt i)).2.1.1)
  have ex := ks_cst hW hA.2.2.1
  have ey := ks_cst hW hA.2.2.2
  refine lv_aload_n hx hb d_Mo_base_0 rfl (lv_at hl 0 rfl) ?_
  refine lv_iload_n hx hb d_Mo_base_1 rfl (lv_at hl 1 rfl) ?_
  refine kq_gets hx hb hts (ks_zat hW hC.2.2.2.1) hown kt_w536 d_Mo_base_2 ?_
  refine kq_gets hx hb hts (ks_zat hW hC.2.2.2.2) hown kt_w538 d_Mo_base_5 ?_
  refine kq_call (va_runV (As := [.int i, .ref (A 2), .ref (A 3)]) (rest := []) ⟨hx, hb, hml, hown, hts⟩ (c_Mo_keep l E A mo cZ far bs v H hE hA hG hF hW i (A 2) (A 3) (Or.inr hA.2.2.1.1) (Or.inr hA.2.2.2.1) hne) (cwV 3 hts (kt_inV kt_w543 kt_w540 kt_w542 kt_s16 kt_w5) rfl rfl rfl (by decide +kernel) ⟨Nat.le_of_ble_eq_true rfl, Nat.le_of_ble_eq_true rfl⟩) (kq_preV ((ks_KZ_st E A mo cZ)) (hKZ) (kq_recv hK hOo rfl)) rfl rfl hl.1 rfl (lv_room (Nat.le_of_ble_eq_true rfl)) d_Mo_base_8 ⟨Nat.zero_le _, Nat.zero_le _⟩) (fun v9 H1 L1 hq1 hL1 => ?_)
  obtain ⟨rfl, hX1⟩ := hq1
  refine W.eq (g2 := F0 m 11 ls []) rfl ?_
  rw [ex, ey] at hX1
  exact W.vret hx hb hret (fun t ht _ => ⟨_, rfl, rfl, by rw [ht]; exact hX1⟩) (t_lL (free := (fun x => x = mo + 7 + kx3 i ∨ x = mo + 12 + kx3 i ∨ x = mo + 16)) (fun q h => by cases h) hL1) d_Mo_base_11
def kx_same (ba bb : Bool) (xa xb ya yb : Nat) : Bool := if ba = true ∨ bb = true then ba == bb else decide (xa = xb ∧ ya = yb)
theorem d_Mo_same_0 : decode b_Mo_same 0 = .ok (.aload_n 0, 1) := by decide +kernel
theorem d_Mo_same_1 : decode b_Mo_same 1 = .ok (.getfield 20, 3) := by decide +kernel
theorem d_Mo_same_4 : decode b_Mo_same 4 = .ok (.iload_n 1, 1) := by decide +kernel
theorem d_Mo_same_5 : decode b_Mo_same 5 = .ok (.iconst 3, 1) := by decide +kernel
theorem d_Mo_same_6 : decode b_Mo_same 6 = .ok (.iand, 1) := by decide +kernel
theorem d_Mo_same_7 : decode b_Mo_same 7 = .ok (.baload, 1) := by decide +kernel
theorem d_Mo_same_8 : decode b_Mo_same 8 = .ok (.ifCond .ne 14, 3) := by decide +kernel
theorem d_Mo_same_11 : decode b_Mo_same 11 = .ok (.aload_n 0, 1) := by decide +kernel
theorem d_Mo_same_12 : decode b_Mo_same 12 = .ok (.getfield 20, 3) := by decide +kernel
theorem d_Mo_same_15 : decode b_Mo_same 15 = .ok (.iload_n 2, 1) := by decide +kernel
theorem d_Mo_same_16 : decode b_Mo_same 16 = .ok (.iconst 3, 1) := by decide +kernel
theorem d_Mo_same_17 : decode b_Mo_same 17 = .ok (.iand, 1) := by decide +kernel
theorem d_Mo_same_18 : decode b_Mo_same 18 = .ok (.baload, 1) := by decide +kernel
theorem d_Mo_same_19 : decode b_Mo_same 19 = .ok (.ifCond .eq 28, 3) := by decide +kernel
theorem d_Mo_same_22 : decode b_Mo_same 22 = .ok (.aload_n 0, 1) := by decide +kernel
theorem d_Mo_same_23 : decode b_Mo_same 23 = .ok (.getfield 20, 3) := by decide +kernel
theorem d_Mo_same_26 : decode b_Mo_same 26 = .ok (.iload_n 1, 1) := by decide +kernel
theorem d_Mo_same_27 : decode b_Mo_same 27 = .ok (.iconst 3, 1) := by decide +kernel
theorem d_Mo_same_28 : decode b_Mo_same 28 = .ok (.iand, 1) := by decide +kernel
theorem d_Mo_same_29 : decode b_Mo_same 29 = .ok (.baload, 1) := by decide +kernel
theorem d_Mo_same_30 : decode b_Mo_same 30 = .ok (.aload_n 0, 1) := by decide +kernel
theorem d_Mo_same_31 : decode b_Mo_same 31 = .ok (.getfield 20, 3) := by decide +kernel
theorem d_Mo_same_34 : decode b_Mo_same 34 = .ok (.iload_n 2, 1) := by decide +kernel
theorem d_Mo_same_35 : decode b_Mo_same 35 = .ok (.iconst 3, 1) := by decide +kernel
theorem d_Mo_same_36 : decode b_Mo_same 36 = .ok (.iand, 1) := by decide +kernel
theorem d_Mo_same_37 : decode b_Mo_same 37 = .ok (.baload, 1) := by decide +kernel
theorem d_Mo_same_38 : decode b_Mo_same 38 = .ok (.if_icmp .ne 7, 3) := by decide +kernel
theorem d_Mo_same_41 : decode b_Mo_same 41 = .ok (.iconst 1, 1) := by decide +kernel
theorem d_Mo_same_42 : decode b_Mo_same 42 = .ok (.goto 4, 3) := by decide +kernel
theorem d_Mo_same_45 : decode b_Mo_same 45 = .ok (.iconst 0, 1) := by decide +kernel
theorem d_Mo_same_46 : decode b_Mo_same 46 = .ok (.ireturn, 1) := by decide +kernel
theorem d_Mo_same_47 : decode b_Mo_same 47 = .ok (.aload_n 0, 1) := by decide +kernel
theorem d_Mo_same_48 : decode b_Mo_same 48 = .ok (.getfield 14, 3) := by decide +kernel
theorem d_Mo_same_51 : decode b_Mo_same 51 = .ok (.iload_n 1, 1) := by decide +kernel
theorem d_Mo_same_52 : decode b_Mo_same 52 = .ok (.iconst 3, 1) := by decide +kernel
theorem d_Mo_same_53 : decode b_Mo_same 53 = .ok (.iand, 1) := by decide +kernel
theorem d_Mo_same_54 : decode b_Mo_same 54 = .ok (.aaload, 1) := by decide +kernel
theorem d_Mo_same_55 : decode b_Mo_same 55 = .ok (.aload_n 0, 1) := by decide +kernel
theorem d_Mo_same_56 : decode b_Mo_same 56 = .ok (.getfield 14, 3) := by decide +kernel
theorem d_Mo_same_59 : decode b_Mo_same 59 = .ok (.iload_n 2, 1) := by decide +kernel
theorem d_Mo_same_60 : decode b_Mo_same 60 = .ok (.iconst 3, 1) := by decide +kernel
theorem d_Mo_same_61 : decode b_Mo_same 61 = .ok (.iand, 1) := by decide +kernel
theorem d_Mo_same_62 : decode b_Mo_same 62 = .ok (.aaload, 1) := by decide +kernel
theorem d_Mo_same_63 : decode b_Mo_same 63 = .ok (.invokestatic 93, 3) := by decide +kernel
theorem d_Mo_same_66 : decode b_Mo_same 66 = .ok (.ifCond .ne 29, 3) := by decide +kernel
theorem d_Mo_same_69 : decode b_Mo_same 69 = .ok (.aload_n 0, 1) := by decide +kernel
theorem d_Mo_same_70 : decode b_Mo_same 70 = .ok (.getfield 17, 3) := by decide +kernel
theorem d_Mo_same_73 : decode b_Mo_same 73 = .ok (.iload_n 1, 1) := by decide +kernel
theorem d_Mo_same_74 : decode b_Mo_same 74 = .ok (.iconst 3, 1) := by decide +kernel
theorem d_Mo_same_75 : decode b_Mo_same 75 = .ok (.iand, 1) := by decide +kernel
theorem d_Mo_same_76 : decode b_Mo_same 76 = .ok (.aaload, 1) := by decide +kernel
theorem d_Mo_same_77 : decode b_Mo_same 77 = .ok (.aload_n 0, 1) := by decide +kernel
theorem d_Mo_same_78 : decode b_Mo_same 78 = .ok (.getfield 17, 3) := by decide +kernel
theorem d_Mo_same_81 : decode b_Mo_same 81 = .ok (.iload_n 2, 1) := by decide +kernel
theorem d_Mo_same_82 : decode b_Mo_same 82 = .ok (.iconst 3, 1) := by decide +kernel
theorem d_Mo_same_83 : decode b_Mo_same 83 = .ok (.iand, 1) := by decide +kernel
theorem d_Mo_same_84 : decode b_Mo_same 84 = .ok (.aaload, 1) := by decide +kernel
theorem d_Mo_same_85 : decode b_Mo_same 85 = .ok (.invokestatic 93, 3) := by decide +kernel
theorem d_Mo_same_88 : decode b_Mo_same 88 = .ok (.ifCond .ne 7, 3) := by decide +kernel
theorem d_Mo_same_91 : decode b_Mo_same 91 = .ok (.iconst 1, 1) := by decide +kernel
theorem d_Mo_same_92 : decode b_Mo_same 92 = .ok (.goto 4, 3) := by decide +kernel
theorem d_Mo_same_95 : decode b_Mo_same 95 = .ok (.iconst 0, 1) := by decide +kernel
theorem d_Mo_same_96 : decode b_Mo_same 96 = .ok (.ireturn, 1) := by decide +kernel
set_option maxHeartbeats 4000000 in
set_option maxRecDepth 100000 in
theorem c_Mo_same (l : Launch) (E : ks_E) (A : Nat → Nat) (mo : Nat) (cZ : ClassId) (far : Bool) (bs : Nat → Bool) (v : Nat → Nat) (H : Heap) (hE : ks_ok E) (hA : ks_A E A) (hG : ks_G E mo) (hF : ks_F E mo cZ far bs) (hW : ks_W E v H) (a b : Int32) : Met l y_Mo_same w_Mo_same ({ frames := 3, cells := 0, slots := 0, locals := 66 }) (kq_P [.ref mo, .int a, .int b] H (ks_KZ E A mo cZ)) (kq_Q (fun o1 H1 => o1 = some (.int (kq_z (kx_same (bs (kx3 a)) (bs (kx3 b)) (v (mo + 7 + kx3 a)) (v (mo + 7 + kx3 b)) (v (mo + 12 + kx3 a)) (v (mo + 12 + kx3 b))))) ∧ H1 = H)) 0 0 (fun _ => False) := by
  refine Met.ofW (cc := b_Mo_same) (maxL := 3) (ret := (some .boolean)) (by decide) rfl ?_
  intro p e s m args below meth c s₁ B0 hml hv
  obtain ⟨rfl, hH, hKZ⟩ := hv
  have hx := B0.exec
  have hb := B0.bytes
  have hret := B0.returns
  have hts := atoms_spec (ws := w_Mo_same) B0.pre
  have hown : s.vm.findClass R_Mo = some m.cls := findClass_of_methodNamed B0.named
  have hlocks := B0.notSynchronized
  rw [hH]
  have hl := lv_entry ([.ref mo, .int a, .int b]) (n := 3) (Nat.le_of_ble_eq_true rfl)
  rw [lg_entry_eq]
  generalize (lg_sl ([.ref mo, .int a, .int b]) ++ List.replicate (3 - (lg_sl ([.ref mo, .int a, .int b])).length) Slot.unset).toArray = ls at hl ⊢
  have hl : lv_has ls 3 [(0, .ref mo), (1, .int a), (2, .int b)] := hl
  have hKK := hKZ.1
  have hC := hKK.1
  have hB := hC.1
  have hK := hB.1
  have hT := ks_T hE hB
  have hO := hF.1
  have hOo := ks_obj hW hO.1 hO.2.1
  have hNn : H[mo + 16]? = some (kq_B cZ bs) := (hW.2.2.1 _ hF.2.2.1).trans hF.2.1
  have hzr : kq_r s .boolean H (mo + 16) 4 (fun j => .int (kq_z (bs j))) := kq_r.ofV hKZ.2 hNn
  have har := hKK.2.1.other (hW.2.2.1 (mo + 1) hG.2.1)
  have hax := hKK.2.2.1.other (hW.2.2.1 (mo + 6) hG.2.2.1)
  have hay := hKK.2.2.2.other (hW.2.2.1 (mo + 11) hG.2.2.2)
  have hxa := (hG.1 (kx3 a) (kx3_lt a)).2.1
  have hya := (hG.1 (kx3 a) (kx3_lt a)).2.2
  have sxa := ks_src hE hW hB (Or.inl hxa)
  have sya := ks_src hE hW hB (Or.inl hya)
  have lxa := ks_lt hE hW (Or.inl hxa)
  have lya := ks_lt hE hW (Or.inl hya)
  have hxb := (hG.1 (kx3 b) (kx3_lt b)).2.1
  have hyb := (hG.1 (kx3 b) (kx3_lt b)).2.2
  have sxb := ks_src hE hW hB (Or.inl hxb)
  have syb := ks_src hE hW hB (Or.inl hyb)
  have lxb := ks_lt hE hW (Or.inl hxb)
  have lyb := ks_lt hE hW (Or.inl hyb)
  refine lv_aload_n hx hb d_Mo_same_0 rfl (lv_at hl 0 rfl) ?_
  refine kq_get hx hb hts kt_F_Mo hown hK hOo rfl 3 (by decide) kt_w379 rfl d_Mo_same_1 ?_
  refine lv_iload_n hx hb d_Mo_same_4 rfl (lv_at hl 1 rfl) ?_
  refine lv_iconst (v := nI 3) hx hb d_Mo_same_5 (by decide) ?_
  refine lv_iand hx hb d_Mo_same_6 ?_
  refine kq_ri (show a &&& (nI 3) = nI (kx3 a) from kx_and3 a) ?_
  refine kq_zald hx hb hzr (kx3_lt a) (by decide) rfl d_Mo_same_7 ?_
  refine lv_if_ne hx hb d_Mo_same_8 rfl (fun h1 => ?_) (fun h1 => ?_)
  · have hor : bs (kx3 a) = true ∨ bs (kx3 b) = true := Or.inl (kq_z_b1 h1)
    refine lv_aload_n hx hb d_Mo_same_22 rfl (lv_at hl 0 rfl) ?_
    refine kq_get hx hb hts kt_F_Mo hown hK hOo rfl 3 (by decide) kt_w379 rfl d_Mo_same_23 ?_
    refine lv_iload_n hx hb d_Mo_same_26 rfl (lv_at hl 1 rfl) ?_
    refine lv_iconst (v := nI 3) hx hb d_Mo_same_27 (by decide) ?_
    refine lv_iand hx hb d_Mo_same_28 ?_
    refine kq_ri (show a &&& (nI 3) = nI (kx3 a) from kx_and3 a) ?_
    refine kq_zald hx hb hzr (kx3_lt a) (by decide) rfl d_Mo_same_29 ?_
    refine lv_aload_n hx hb d_Mo_same_30 rfl (lv_at hl 0 rfl) ?_
    refine kq_get hx hb hts kt_F_Mo hown hK hOo rfl 3 (by decide) kt_w379 rfl d_Mo_same_31 ?_
    refine lv_iload_n hx hb d_Mo_same_34 rfl (lv_at hl 2 rfl) ?_
    refine lv_iconst (v := nI 3) hx hb d_Mo_same_35 (by decide) ?_
    refine lv_iand hx hb d_Mo_same_36 ?_
    refine kq_ri (show b &&& (nI 3) = nI (kx3 b) from kx_and3 b) ?_
    refine kq_zald hx hb hzr (kx3_lt b) (by decide) rfl d_Mo_same_37 ?_
    refine lv_icmp_ne hx hb d_Mo_same_38 rfl (fun he => ?_) (fun he => ?_)
    · refine lv_iconst (v := nI 0) hx hb d_Mo_same_45 (by decide) ?_
      exact W.zret hx hb hret rfl (fun t ht _ => ⟨_, rfl, by
        unfold kx_same
        rw [if_pos hor]
        generalize bs (kx3 a) = x at he ⊢
        generalize bs (kx3 b) = y at he ⊢
        cases x <;> cases y <;> first | rfl | exact absurd rfl he | exact absurd he (by decide), ht⟩) (fun q h => by cases h) d_Mo_same_46
    · refine lv_iconst (v := nI 1) hx hb d_Mo_same_41 (by decide) ?_
      refine lv_goto hx hb d_Mo_same_42 rfl ?_
      exact W.zret hx hb hret rfl (fun t ht _ => ⟨_, rfl, by
        unfold kx_same
        rw [if_pos hor]
        generalize bs (kx3 a) = x at he ⊢
        generalize bs (kx3 b) = y at he ⊢
        cases x <;> cases y <;> first | rfl | exact absurd rfl he | exact absurd he (by decide), ht⟩) (fun q h => by cases h) d_Mo_same_46
  · have b1 := kq_z_b0 h1
    refine lv_aload_n hx hb d_Mo_same_11 rfl (lv_at hl 0 rfl) ?_
    refine kq_get hx hb hts kt_F_Mo hown hK hOo rfl 3 (by decide) kt_w379 rfl d_Mo_same_12 ?_
    refine lv_iload_n hx hb d_Mo_same_15 rfl (lv_at hl 2 rfl) ?_
    refine lv_iconst (v := nI 3) hx hb d_Mo_same_16 (by decide) ?_
    refine lv_iand hx hb d_Mo_same_17 ?_
    refine kq_ri (show b &&& (nI 3) = nI (kx3 b) from kx_and3 b) ?_
    refine kq_zald hx hb hzr (kx3_lt b) (by decide) rfl d_Mo_same_18 ?_
    refine lv_if_eq hx hb d_Mo_same_19 rfl (fun h2 => ?_) (fun h2 => ?_)
    · have b2 := kq_z_b0 h2
      have hno : ¬ (bs (kx3 a) = true ∨ bs (kx3 b) = true) := by rw [b1, b2]; decide
      refine lv_aload_n hx hb d_Mo_same_47 rfl (lv_at hl 0 rfl) ?_
      refine kq_get hx hb hts kt_F_Mo hown hK hOo rfl 1 (by decide) kt_w377 rfl d_Mo_same_48 ?_
      refine lv_iload_n hx hb d_Mo_same_51 rfl (lv_at hl 1 rfl) ?_
      refine lv_iconst (v := nI 3) hx hb d_Mo_same_52 (by decide) ?_
      refine lv_iand hx hb d_Mo_same_53 ?_
      refine kq_ri (show a &&& (nI 3) = nI (kx3 a) from kx_and3 a) ?_
      refine kq_aald hx hb (hax) rfl (kx3_lt a) (by decide) (rfl) d_Mo_same_54 ?_
      refine lv_aload_n hx hb d_Mo_same_55 rfl (lv_at hl 0 rfl) ?_
      refine kq_get hx hb hts kt_F_Mo hown hK hOo rfl 1 (by decide) kt_w377 rfl d_Mo_same_56 ?_
      refine lv_iload_n hx hb d_Mo_same_59 rfl (lv_at hl 2 rfl) ?_
      refine lv_iconst (v := nI 3) hx hb d_Mo_same_60 (by decide) ?_
      refine lv_iand hx hb d_Mo_same_61 ?_
      refine kq_ri (show b &&& (nI 3) = nI (kx3 b) from kx_and3 b) ?_
      refine kq_aald hx hb (hax) rfl (kx3_lt b) (by decide) (rfl) d_Mo_same_62 ?_
      refine kq_call (va_runS (As := [.ref (mo + 7 + kx3 a), .ref (mo + 7 + kx3 b)]) (rest := []) ⟨hx, hb, hml, hown, hts⟩ (c_Mo_compare l H (mo + 7 + kx3 a) (mo + 7 + kx3 b) (v (mo + 7 + kx3 a)) (v (mo + 7 + kx3 b)) lxa lxb) (va_cwS 2 hts (kt_inS kt_w465 kt_w463 kt_w464 kt_w5) rfl rfl rfl (by decide +kernel) ⟨Nat.le_of_ble_eq_true rfl, Nat.le_of_ble_eq_true rfl⟩) (kq_preS (kq_st_r.both kq_st_r) (⟨sxa, sxb⟩)) rfl rfl hl.1 rfl (lv_room (Nat.le_of_ble_eq_true rfl)) d_Mo_same_63 ⟨Nat.zero_le _, Nat.zero_le _⟩) (fun v9 H9 L1 hq9 hL1 => ?_)
      obtain ⟨rfl, e9⟩ := hq9
      rw [e9]
      clear e9
      refine W.eq (g2 := F0 m 66 ls [.int (kx_cmp (v (mo + 7 + kx3 a)) (v (mo + 7 + kx3 b)))]) rfl ?_
      have hlc1 : ∀ q ∈ ([] : List Loc) ++ L1, False := t_lL (free := fun _ => False) (fun q h => by cases h) hL1
      refine lv_if_ne hx hb d_Mo_same_66 rfl (fun h3 => ?_) (fun h3 => ?_)
      · refine lv_iconst (v := nI 0) hx hb d_Mo_same_95 (by decide) ?_
        exact W.zret hx hb hret rfl (fun t ht _ => ⟨_, rfl, by unfold kx_same; rw [if_neg hno, kq_z_f (fun z => h3 (kx_cmp_0.mpr z.1))], ht⟩) hlc1 d_Mo_same_96
      · refine lv_aload_n hx hb d_Mo_same_69 rfl (lv_at hl 0 rfl) ?_
        refine kq_get hx hb hts kt_F_Mo hown hK hOo rfl 2 (by decide) kt_w378 rfl d_Mo_same_70 ?_
        refine lv_iload_n hx hb d_Mo_same_73 rfl (lv_at hl 1 rfl) ?_
        refine lv_iconst (v := nI 3) hx hb d_Mo_same_74 (by decide) ?_
        refine lv_iand hx hb d_Mo_same_75 ?_
        refine kq_ri (show a &&& (nI 3) = nI (kx3 a) from kx_and3 a) ?_
        refine kq_aald hx hb (hay) rfl (kx3_lt a) (by decide) (rfl) d_Mo_same_76 ?_
        refine lv_aload_n hx hb d_Mo_same_77 rfl (lv_at hl 0 rfl) ?_
        refine kq_get hx hb hts kt_F_Mo hown hK hOo rfl 2 (by decide) kt_w378 rfl d_Mo_same_78 ?_
        refine lv_iload_n hx hb d_Mo_same_81 rfl (lv_at hl 2 rfl) ?_
        refine lv_iconst (v := nI 3) hx hb d_Mo_same_82 (by decide) ?_
        refine lv_iand hx hb d_Mo_same_83 ?_
        refine kq_ri (show b &&& (nI 3) = nI (kx3 b) from kx_and3 b) ?_
        refine kq_aald hx hb (hay) rfl (kx3_lt b) (by decide) (rfl) d_Mo_same_84 ?_
        refine kq_call (va_runS (As := [.ref (mo + 12 + kx3 a), .ref (mo + 12 + kx3 b)]) (rest := []) ⟨hx, hb, hml, hown, hts⟩ (c_Mo_compare l H (mo + 12 + kx3 a) (mo + 12 + kx3 b) (v (mo + 12 + kx3 a)) (v (mo + 12 + kx3 b)) lya lyb) (va_cwS 2 hts (kt_inS kt_w465 kt_w463 kt_w464 kt_w5) rfl rfl rfl (by decide +kernel) ⟨Nat.le_of_ble_eq_true rfl, Nat.le_of_ble_eq_true rfl⟩) (kq_preS (kq_st_r.both kq_st_r) (⟨sya, syb⟩)) rfl rfl hl.1 rfl (lv_room (Nat.le_of_ble_eq_true rfl)) d_Mo_same_85 ⟨Nat.zero_le _, Nat.zero_le _⟩) (fun v9 H9 L2 hq9 hL2 => ?_)
        obtain ⟨rfl, e9⟩ := hq9
        rw [e9]
        clear e9
        refine W.eq (g2 := F0 m 88 ls [.int (kx_cmp (v (mo + 12 + kx3 a)) (v (mo + 12 + kx3 b)))]) rfl ?_
        have hlc2 : ∀ q ∈ (([] : List Loc) ++ L1) ++ L2, False := t_lL (free := fun _ => False) hlc1 hL2
        refine lv_if_ne hx hb d_Mo_same_88 rfl (fun h4 => ?_) (fun h4 => ?_)
        · refine lv_iconst (v := nI 0) hx hb d_Mo_same_95 (by decide) ?_
          exact W.zret hx hb hret rfl (fun t ht _ => ⟨_, rfl, by unfold kx_same; rw [if_neg hno, kq_z_f (fun z => h4 (kx_cmp_0.mpr z.2))], ht⟩) hlc2 d_Mo_same_96
        · refine lv_iconst (v := nI 1) hx hb d_Mo_same_91 (by decide) ?_
          refine lv_goto hx hb d_Mo_same_92 rfl ?_
          exact W.zret hx hb hret rfl (fun t ht _ => ⟨_, rfl, by unfold kx_same; rw [if_neg hno, kq_z_t ⟨kx_cmp_0.mp h3, kx_cmp_0.mp h4⟩], ht⟩) hlc2 d_Mo_same_96
    · have hor : bs (kx3 a) = true ∨ bs (kx3 b) = true := Or.inr (kq_z_b1 h2)
      refine lv_aload_n hx hb d_Mo_same_22 rfl (lv_at hl 0 rfl) ?_
      refine kq_get hx hb hts kt_F_Mo hown hK hOo rfl 3 (by decide) kt_w379 rfl d_Mo_same_23 ?_
      refine lv_iload_n hx hb d_Mo_same_26 rfl (lv_at hl 1 rfl) ?_
      refine lv_iconst (v := nI 3) hx hb d_Mo_same_27 (by decide) ?_
      refine lv_iand hx hb d_Mo_same_28 ?_
      refine kq_ri (show a &&& (nI 3) = nI (kx3 a) from kx_and3 a) ?_
      refine kq_zald hx hb hzr (kx3_lt a) (by decide) rfl d_Mo_same_29 ?_
      refine lv_aload_n hx hb d_Mo_same_30 rfl (lv_at hl 0 rfl) ?_
      refine kq_get hx hb hts kt_F_Mo hown hK hOo rfl 3 (by decide) kt_w379 rfl d_Mo_same_31 ?_
      refine lv_iload_n hx hb d_Mo_same_34 rfl (lv_at hl 2 rfl) ?_
      refine lv_iconst (v := nI 3) hx hb d_Mo_same_35 (by decide) ?_
      refine lv_iand hx hb d_Mo_same_36 ?_
      refine kq_ri (show b &&& (nI 3) = nI (kx3 b) from kx_and3 b) ?_
      refine kq_zald hx hb hzr (kx3_lt b) (by decide) rfl d_Mo_same_37 ?_
      refine lv_icmp_ne hx hb d_Mo_same_38 rfl (fun he => ?_) (fun he => ?_)
      · refine lv_iconst (v := nI 0) hx hb d_Mo_same_45 (by decide) ?_
        exact W.zret hx hb hret rfl (fun t ht _ => ⟨_, rfl, by
          unfold kx_same
          rw [if_pos hor]
          generalize bs (kx3 a) = x at he ⊢
          generalize bs (kx3 b) = y at he ⊢
          cases x <;> cases y <;> first | rfl | exact absurd rfl he | exact absurd he (by decide), ht⟩) (fun q h => by cases h) d_Mo_same_46
      · refine lv_iconst (v := nI 1) hx hb d_Mo_same_41 (by decide) ?_
        refine lv_goto hx hb d_Mo_same_42 rfl ?_
        exact W.zret hx hb hret rfl (fun t ht _ => ⟨_, rfl, by
          unfold kx_same
          rw [if_pos hor]
          generalize bs (kx3 a) = x at he ⊢
          generalize bs (kx3 b) = y at he ⊢
          cases x <;> cases y <;> first | rfl | exact absurd rfl he | exact absurd he (by decide), ht⟩) (fun q h => by cases h) d_Mo_same_46
