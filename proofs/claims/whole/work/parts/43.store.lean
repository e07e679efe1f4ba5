/-! KeyCurveModel: store (own rows). -/
theorem ks_X_trans {E : ks_E} {mo : Nat} {cZ : ClassId} {far : Bool} {bs : Nat → Bool} {w : Nat → Nat} {B H : Heap} (hl : ks_like E mo B) (h : ks_X (ks_at E B) mo cZ far bs w H) : ks_X E mo cZ far bs w H := by
  obtain ⟨B2, h2, h3, h4⟩ := h
  exact ⟨B2, ⟨h2.1.trans hl.1, fun q q0 q1 q2 => (h2.2 q q0 q1 q2).trans (hl.2 q q0 q1 q2)⟩, h3, h4⟩
theorem kx_ub2 (bs : Nat → Bool) (k : Nat) (b c : Bool) : kx_ub (kx_ub bs k b) k c = kx_ub bs k c := by
  funext i
  unfold kx_ub
  split <;> rfl
theorem d_Mo_store_0 : decode b_Mo_store 0 = .ok (.aload_n 0, 1) := by decide +kernel
theorem d_Mo_store_1 : decode b_Mo_store 1 = .ok (.getfield 20, 3) := by decide +kernel
theorem d_Mo_store_4 : decode b_Mo_store 4 = .ok (.iload_n 1, 1) := by decide +kernel
theorem d_Mo_store_5 : decode b_Mo_store 5 = .ok (.iconst 3, 1) := by decide +kernel
theorem d_Mo_store_6 : decode b_Mo_store 6 = .ok (.iand, 1) := by decide +kernel
theorem d_Mo_store_7 : decode b_Mo_store 7 = .ok (.aload_n 0, 1) := by decide +kernel
theorem d_Mo_store_8 : decode b_Mo_store 8 = .ok (.getfield 118, 3) := by decide +kernel
theorem d_Mo_store_11 : decode b_Mo_store 11 = .ok (.bastore, 1) := by decide +kernel
theorem d_Mo_store_12 : decode b_Mo_store 12 = .ok (.aload_n 0, 1) := by decide +kernel
theorem d_Mo_store_13 : decode b_Mo_store 13 = .ok (.getfield 118, 3) := by decide +kernel
theorem d_Mo_store_16 : decode b_Mo_store 16 = .ok (.ifCond .ne 16, 3) := by decide +kernel
theorem d_Mo_store_19 : decode b_Mo_store 19 = .ok (.aload_n 0, 1) := by decide +kernel
theorem d_Mo_store_20 : decode b_Mo_store 20 = .ok (.iload_n 1, 1) := by decide +kernel
theorem d_Mo_store_21 : decode b_Mo_store 21 = .ok (.aload_n 0, 1) := by decide +kernel
theorem d_Mo_store_22 : decode b_Mo_store 22 = .ok (.getfield 52, 3) := by decide +kernel
theorem d_Mo_store_25 : decode b_Mo_store 25 = .ok (.aload_n 0, 1) := by decide +kernel
theorem d_Mo_store_26 : decode b_Mo_store 26 = .ok (.getfield 55, 3) := by decide +kernel
theorem d_Mo_store_29 : decode b_Mo_store 29 = .ok (.invokevirtual 162, 3) := by decide +kernel
theorem d_Mo_store_32 : decode b_Mo_store 32 = .ok (.return_, 1) := by decide +kernel
set_option maxHeartbeats 4000000 in
set_option maxRecDepth 100000 in
theorem c_Mo_store (l : Launch) (E : ks_E) (A : Nat → Nat) (mo : Nat) (cZ : ClassId) (far : Bool) (bs : Nat → Bool) (v : Nat → Nat) (H : Heap) (hE : ks_ok E) (hA : ks_A E A) (hG : ks_G E mo) (hF : ks_F E mo cZ far bs) (hW : ks_W E v H) (i : Int32) : Met l y_Mo_store w_Mo_store ({ frames := 3, cells := 0, slots := 0, locals := 64 }) (kq_P [.ref mo, .int i] H (ks_KZ E A mo cZ)) (kq_Q (fun o1 H1 => o1 = none ∧ ks_X E mo cZ far (kx_ub bs (kx3 i) far) (if far = true then v else va_up (va_up v (mo + 7 + kx3 i) (v (mo + 26))) (mo + 12 + kx3 i) (v (mo + 27))) H1)) 0 0 (fun x => x = mo + 7 + kx3 i ∨ x = mo + 12 + kx3 i ∨ x = mo + 16) := by
  refine Met.ofW (cc := b_Mo_store) (maxL := 2) (ret := none) (by decide) rfl ?_
  intro p e s m args below meth c s₁ B0 hml hv
  obtain ⟨rfl, hH, hKZ⟩ := hv
  have hx := B0.exec
  have hb := B0.bytes
  have hret := B0.returns
  have hts := atoms_spec (ws := w_Mo_store) B0.pre
  have hown : s.vm.findClass R_Mo = some m.cls := findClass_of_methodNamed B0.named
  have hlocks := B0.notSynchronized
  rw [hH]
  have hl := lv_entry ([.ref mo, .int i]) (n := 2) (Nat.le_of_ble_eq_true rfl)
  rw [lg_entry_eq]
  generalize (lg_sl ([.ref mo, .int i]) ++ List.replicate (2 - (lg_sl ([.ref mo, .int i])).length) Slot.unset).toArray = ls at hl ⊢
  have hl : lv_has ls 2 [(0, .ref mo), (1, .int i)] := hl
  have hKK := hKZ.1
  have hC := hKK.1
  have hB := hC.1
  have hK := hB.1
  have hT := ks_T hE hB
  have hO := hF.1
  have hOo := ks_obj hW hO.1 hO.2.1
  have hNn : H[mo + 16]? = some (kq_B cZ bs) := (hW.2.2.1 _ hF.2.2.1).trans hF.2.1
  have hzr : kq_r s .boolean H (mo + 16) 4 (fun j => .int (kq_z (bs j))) := kq_r.ofV hKZ.2 hNn
  have har := hKK.2.1.other (hW.2.2.1 (mo + 1) hG.2.1)
  have hax := hKK.2.2.1.other (hW.2.2.1 (mo + 6) hG.2.2.1)
  have hay := hKK.2.2.2.other (hW.2.2.1 (mo + 11) hG.2.2.2)
  refine lv_aload_n hx hb d_Mo_store_0 rfl (lv_at hl 0 rfl) ?_
  refine kq_get hx hb hts kt_F_Mo hown hK hOo rfl 3 (by decide) kt_w379 rfl d_Mo_store_1 ?_
  refine lv_iload_n hx hb d_Mo_store_4 rfl (lv_at hl 1 rfl) ?_
  refine lv_iconst (v := nI 3) hx hb d_Mo_store_5 (by decide) ?_
  refine lv_iand hx hb d_Mo_store_6 ?_
  refine kq_ri (show i &&& (nI 3) = nI (kx3 i) from kx_and3 i) ?_
  refine lv_aload_n hx hb d_Mo_store_7 rfl (lv_at hl 0 rfl) ?_
  refine kq_get hx hb hts kt_F_Mo hown hK hOo rfl 17 (by decide) kt_w393 rfl d_Mo_store_8 ?_
  refine kq_zast hx hb hKZ.2 hNn (kx3_lt i) d_Mo_store_11 (fun H1 e1 e2 e3 => ?_)
  have hP1 := hOo.kept (H1 := H1) (fun k z hk => by
    have h0 : k < 1 := (List.getElem?_eq_some_iff.mp hk).1
    rw [show k = 0 by omega] at hk
    cases hk
    exact e3 mo (by omega))
  obtain ⟨B, hlk, hW1, hF1⟩ := ks_X_new (far2 := far) (bs2 := kx_ub bs (kx3 i) far) hW hF e2 (fun x _ x2 => e3 x x2) hP1 e1
  have hK1 := ks_K_at hE hG hF hlk hKK
  have hO1 := ks_obj hW1 hF1.1.1 hF1.1.2.1
  have ki := kx3_lt i
  have h26 := hF1.1.2.2.1 26 (by decide) (by decide) (by decide)
  have h27 := hF1.1.2.2.1 27 (by decide) (by decide) (by decide)
  have hE1 : ks_ok (ks_at E B) := hE
  have hA1 : ks_A (ks_at E B) A := hA
  have hG1 : ks_G (ks_at E B) mo := hG
  have hlc1 := t_lc (free := (fun x => x = mo + 7 + kx3 i ∨ x = mo + 12 + kx3 i ∨ x = mo + 16)) (locs := []) (a := mo + 16) (i := kx3 i) (fun q h => by cases h) (Or.inr (Or.inr rfl))
  refine lv_aload_n hx hb d_Mo_store_12 rfl (lv_at hl 0 rfl) ?_
  refine kq_get hx hb hts kt_F_Mo hown hK hO1 rfl 17 (by decide) kt_w393 rfl d_Mo_store_13 ?_
  refine lv_if_ne hx hb d_Mo_store_16 rfl (fun hc => ?_) (fun hc => ?_)
  · have hf := kq_z_b1 hc
    refine W.vret hx hb hret (fun t ht _ => ⟨_, rfl, rfl, ?_⟩) hlc1 d_Mo_store_32
    rw [ht, if_pos hf]
    exact ⟨B, hlk, hW1, hF1⟩
  · have hf := kq_z_b0 hc
    refine lv_aload_n hx hb d_Mo_store_19 rfl (lv_at hl 0 rfl) ?_
    refine lv_iload_n hx hb d_Mo_store_20 rfl (lv_at hl 1 rfl) ?_
    refine lv_aload_n hx hb d_Mo_store_21 rfl (lv_at hl 0 rfl) ?_
    refine kq_get hx hb hts kt_F_Mo hown hK hO1 rfl 13 (by decide) kt_w389 rfl d_Mo_store_22 ?_
    refine lv_aload_n hx hb d_Mo_store_25 rfl (lv_at hl 0 rfl) ?_
    refine kq_get hx hb hts kt_F_Mo hown hK hO1 rfl 14 (by decide) kt_w390 rfl d_Mo_store_26 ?_
    refine kq_call (va_runV (As := [.int i, .ref (mo + 26), .ref (mo + 27)]) (rest := []) ⟨hx, hb, hml, hown, hts⟩ (c_Mo_keep l (ks_at E B) A mo cZ far (kx_ub bs (kx3 i) far) v H1 hE1 hA1 hG1 hF1 hW1 i (mo + 26) (mo + 27) (Or.inl h26) (Or.inl h27) (by omega)) (cwV 3 hts (kt_inV kt_w543 kt_w540 kt_w542 kt_s16 kt_w5) rfl rfl rfl (by decide +kernel) ⟨Nat.le_of_ble_eq_true rfl, Nat.le_of_ble_eq_true rfl⟩) (kq_preV ((ks_KZ_st (ks_at E B) A mo cZ)) (⟨hK1, hKZ.2⟩) (kq_recv hK hO1 rfl)) rfl rfl hl.1 rfl (lv_room (Nat.le_of_ble_eq_true rfl)) d_Mo_store_29 ⟨Nat.zero_le _, Nat.zero_le _⟩) (fun v9 H2 L2 hq2 hL2 => ?_)
    obtain ⟨rfl, hX2⟩ := hq2
    refine W.eq (g2 := F0 m 32 ls []) rfl ?_
    rw [kx_ub2] at hX2
    refine W.vret hx hb hret (fun t ht _ => ⟨_, rfl, rfl, ?_⟩) (t_lL (free := (fun x => x = mo + 7 + kx3 i ∨ x = mo + 12 + kx3 i ∨ x = mo + 16)) hlc1 hL2) d_Mo_store_32
    rw [ht, if_neg (by rw [hf]; decide)]
    have h9 := ks_X_trans hlk hX2
    rw [hf] at h9 ⊢
    exact h9
