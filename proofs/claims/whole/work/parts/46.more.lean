/-! KeyCurveModel: more (own rows). -/
theorem kx_pt_none {mo : Nat} {far : Bool} {w : Nat → Nat} : (kx_pt mo far w).isNone = far := by
  unfold kx_pt
  cases far <;> rfl
theorem kx_pt_low {mo : Nat} {far : Bool} {w : Nat → Nat} (h : kc_low (kx_pt mo far w)) (hf : far = false) : w (mo + 26) < kP ∧ w (mo + 27) < kP := by
  subst hf
  exact h (w (mo + 26), w (mo + 27)) rfl
theorem kx_low_pt {mo : Nat} {far : Bool} {w : Nat → Nat} (h : far = false → w (mo + 26) < kP ∧ w (mo + 27) < kP) : kc_low (kx_pt mo far w) := by
  intro q hq
  cases far
  · cases hq
    exact h rfl
  · cases hq
/-- what store leaves -/
theorem kx_fin {mo k : Nat} {far : Bool} {w v : Nat → Nat} {S : Option (Nat × Nat)} (hS : kx_pt mo far w = S) (hk : k < 4) (ho : ∀ x, ¬ ks_fr mo x → w x = v x) :
    ∃ u : Nat → Nat, (if far = true then w else va_up (va_up w (mo + 7 + k) (w (mo + 26))) (mo + 12 + k) (w (mo + 27))) = u ∧ far = S.isNone ∧ (∀ q0, S = some q0 → u (mo + 7 + k) = q0.1 ∧ u (mo + 12 + k) = q0.2) ∧ (S = none → u (mo + 7 + k) = v (mo + 7 + k) ∧ u (mo + 12 + k) = v (mo + 12 + k)) ∧ ∀ x, x ≠ mo + 7 + k → x ≠ mo + 12 + k → ¬ ks_fr mo x → u x = v x := by
  have n7 : ¬ ks_fr mo (mo + 7 + k) := by unfold ks_fr; omega
  have n12 : ¬ ks_fr mo (mo + 12 + k) := by unfold ks_fr; omega
  refine ⟨_, rfl, by rw [← hS, kx_pt_none], ?_⟩
  subst hS
  cases far
  · rw [if_neg (by decide)]
    refine ⟨fun q0 e => ?_, fun e => (by cases e), fun x x1 x2 x3 => (by rw [kq_up_ne x2, kq_up_ne x1]; exact ho x x3)⟩
    cases e
    exact ⟨by rw [kq_up_ne (by omega), kq_up_at], kq_up_at⟩
  · rw [if_pos rfl]
    exact ⟨fun q0 e => (by cases e), fun _ => ⟨ho _ n7, ho _ n12⟩, fun x _ _ x3 => ho x x3⟩
theorem d_Mo_more_0 : decode b_Mo_more 0 = .ok (.aload_n 0, 1) := by decide +kernel
theorem d_Mo_more_1 : decode b_Mo_more 1 = .ok (.aload_n 1, 1) := by decide +kernel
theorem d_Mo_more_2 : decode b_Mo_more 2 = .ok (.aload_n 2, 1) := by decide +kernel
theorem d_Mo_more_3 : decode b_Mo_more 3 = .ok (.aload_n 0, 1) := by decide +kernel
theorem d_Mo_more_4 : decode b_Mo_more 4 = .ok (.getfield 118, 3) := by decide +kernel
theorem d_Mo_more_7 : decode b_Mo_more 7 = .ok (.ifCond .ne 29, 3) := by decide +kernel
theorem d_Mo_more_10 : decode b_Mo_more 10 = .ok (.aload_n 0, 1) := by decide +kernel
theorem d_Mo_more_11 : decode b_Mo_more 11 = .ok (.getfield 52, 3) := by decide +kernel
theorem d_Mo_more_14 : decode b_Mo_more 14 = .ok (.aload_n 1, 1) := by decide +kernel
theorem d_Mo_more_15 : decode b_Mo_more 15 = .ok (.invokestatic 93, 3) := by decide +kernel
theorem d_Mo_more_18 : decode b_Mo_more 18 = .ok (.ifCond .ne 18, 3) := by decide +kernel
theorem d_Mo_more_21 : decode b_Mo_more 21 = .ok (.aload_n 0, 1) := by decide +kernel
theorem d_Mo_more_22 : decode b_Mo_more 22 = .ok (.getfield 55, 3) := by decide +kernel
theorem d_Mo_more_25 : decode b_Mo_more 25 = .ok (.aload_n 2, 1) := by decide +kernel
theorem d_Mo_more_26 : decode b_Mo_more 26 = .ok (.invokestatic 93, 3) := by decide +kernel
theorem d_Mo_more_29 : decode b_Mo_more 29 = .ok (.ifCond .ne 7, 3) := by decide +kernel
theorem d_Mo_more_32 : decode b_Mo_more 32 = .ok (.iconst 1, 1) := by decide +kernel
theorem d_Mo_more_33 : decode b_Mo_more 33 = .ok (.goto 4, 3) := by decide +kernel
theorem d_Mo_more_36 : decode b_Mo_more 36 = .ok (.iconst 0, 1) := by decide +kernel
theorem d_Mo_more_37 : decode b_Mo_more 37 = .ok (.invokevirtual 180, 3) := by decide +kernel
theorem d_Mo_more_40 : decode b_Mo_more 40 = .ok (.return_, 1) := by decide +kernel
set_option maxHeartbeats 4000000 in
set_option maxRecDepth 100000 in
theorem c_Mo_more (l : Launch) (E : ks_E) (A : Nat → Nat) (mo : Nat) (cZ : ClassId) (far : Bool) (bs : Nat → Bool) (v : Nat → Nat) (H : Heap) (hE : ks_ok E) (hA : ks_A E A) (hG : ks_G E mo) (hF : ks_F E mo cZ far bs) (hW : ks_W E v H) (ax ay : Nat) (hax0 : ks_in E ax) (hay0 : ks_in E ay) (hna : ax ≠ mo + 19 ∧ ax ≠ mo + 20 ∧ ax ≠ mo + 22 ∧ ax ≠ mo + 23 ∧ ax ≠ mo + 24 ∧ ax ≠ mo + 25 ∧ ax ≠ mo + 27 ∧ ax ≠ mo + 30 ∧ ax ≠ mo + 31) (hny : ay ≠ mo + 26) (hlo : far = false → v (mo + 26) < kP ∧ v (mo + 27) < kP ∧ v ax < kP ∧ v ay < kP) : Met l y_Mo_more w_Mo_more ({ frames := 5, cells := 0, slots := 0, locals := 116 }) (kq_P [.ref mo, .ref ax, .ref ay] H (ks_KZ E A mo cZ)) (kq_Q (fun o1 H1 => o1 = none ∧ ∃ (far2 : Bool) (w : Nat → Nat), ks_X E mo cZ far2 bs w H1 ∧ kx_pt mo far2 w = kc_join (kx_pt mo far v) (v ax) (v ay) ∧ ∀ q, ¬ ks_fr mo q → w q = v q)) 0 0 (fun q => q = mo ∨ ks_fr mo q) := by
  refine Met.ofW (cc := b_Mo_more) (maxL := 3) (ret := none) (by decide) rfl ?_
  intro p e s m args below meth c s₁ B0 hml hv
  obtain ⟨rfl, hH, hKZ⟩ := hv
  have hx := B0.exec
  have hb := B0.bytes
  have hret := B0.returns
  have hts := atoms_spec (ws := w_Mo_more) B0.pre
  have hown : s.vm.findClass R_Mo = some m.cls := findClass_of_methodNamed B0.named
  have hlocks := B0.notSynchronized
  rw [hH]
  have hl := lv_entry ([.ref mo, .ref ax, .ref ay]) (n := 3) (Nat.le_of_ble_eq_true rfl)
  rw [lg_entry_eq]
  generalize (lg_sl ([.ref mo, .ref ax, .ref ay]) ++ List.replicate (3 - (lg_sl ([.ref mo, .ref ax, .ref ay])).length) Slot.unset).toArray = ls at hl ⊢
  have hl : lv_has ls 3 [(0, .ref mo), (1, .ref ax), (2, .ref ay)] := hl
  have hKK := hKZ.1
  have hC := hKK.1
  have hB := hC.1
  have hK := hB.1
  have hT := ks_T hE hB
  have hO := hF.1
  have hOo := ks_obj hW hO.1 hO.2.1
  have hNn : H[mo + 16]? = some (kq_B cZ bs) := (hW.2.2.1 _ hF.2.2.1).trans hF.2.1
  have hzr : kq_r s .boolean H (mo + 16) 4 (fun j => .int (kq_z (bs j))) := kq_r.ofV hKZ.2 hNn
  have har := hKK.2.1.other (hW.2.2.1 (mo + 1) hG.2.1)
  have hax := hKK.2.2.1.other (hW.2.2.1 (mo + 6) hG.2.2.1)
  have hay := hKK.2.2.2.other (hW.2.2.1 (mo + 11) hG.2.2.2)
  have r26 := hO.2.2.1 26 (by decide) (by decide) (by decide)
  have r27 := hO.2.2.1 27 (by decide) (by decide) (by decide)
  have hlc0 : ∀ q ∈ ([] : List Loc), q.base = mo ∨ ks_fr mo q.base := fun q h => by cases h
  have s26 := ks_src hE hW hB (Or.inl r26)
  have s27 := ks_src hE hW hB (Or.inl r27)
  have b26 := ks_lt hE hW (Or.inl r26)
  have b27 := ks_lt hE hW (Or.inl r27)
  have sx := ks_src hE hW hB hax0
  have sy := ks_src hE hW hB hay0
  have bx := ks_lt hE hW hax0
  have bY := ks_lt hE hW hay0
  refine lv_aload_n hx hb d_Mo_more_0 rfl (lv_at hl 0 rfl) ?_
  refine lv_aload_n hx hb d_Mo_more_1 rfl (lv_at hl 1 rfl) ?_
  refine lv_aload_n hx hb d_Mo_more_2 rfl (lv_at hl 2 rfl) ?_
  refine lv_aload_n hx hb d_Mo_more_3 rfl (lv_at hl 0 rfl) ?_
  refine kq_get hx hb hts kt_F_Mo hown hK hOo rfl 17 (by decide) kt_w393 rfl d_Mo_more_4 ?_
  refine lv_if_ne hx hb d_Mo_more_7 rfl (fun hf => ?_) (fun hf => ?_)
  · refine lv_iconst (v := nI 0) hx hb d_Mo_more_36 (by decide) ?_
    refine kq_ri (show nI 0 = kq_z false from rfl) ?_
    refine kq_call (va_runV (As := [.ref ax, .ref ay, .int (kq_z false)]) (rest := []) ⟨hx, hb, hml, hown, hts⟩ (c_Mo_join l E A mo cZ far bs v H hE hA hG hF hW ax ay false hax0 hay0 hna hny hlo) (cwV 3 hts (kt_inV kt_w578 kt_w575 kt_w577 kt_s20 kt_w5) rfl rfl rfl (by decide +kernel) ⟨Nat.le_of_ble_eq_true rfl, Nat.le_of_ble_eq_true rfl⟩) (kq_preV ((ks_KZ_st E A mo cZ)) (hKZ) (kq_recv hK hOo rfl)) rfl rfl hl.1 rfl (lv_room (Nat.le_of_ble_eq_true rfl)) d_Mo_more_37 ⟨Nat.zero_le _, Nat.zero_le _⟩) (fun v9 H5 L5 hq5 hL5 => ?_)
    obtain ⟨rfl, far2, w5, hX5, e5, k5⟩ := hq5
    refine W.eq (g2 := F0 m 40 ls []) rfl ?_
    exact W.vret hx hb hret (fun t ht _ => ⟨_, rfl, rfl, far2, w5, by rw [ht]; exact hX5, by rw [e5, if_neg (by decide)], k5⟩) (t_lL (free := (fun q => q = mo ∨ ks_fr mo q)) hlc0 hL5) d_Mo_more_40
  · have hfar := kq_z_b0 hf
    have hpt : kx_pt mo far v = some (v (mo + 26), v (mo + 27)) := by unfold kx_pt; rw [if_neg (by rw [hfar]; decide)]
    refine lv_aload_n hx hb d_Mo_more_10 rfl (lv_at hl 0 rfl) ?_
    refine kq_get hx hb hts kt_F_Mo hown hK hOo rfl 13 (by decide) kt_w389 rfl d_Mo_more_11 ?_
    refine lv_aload_n hx hb d_Mo_more_14 rfl (lv_at hl 1 rfl) ?_
    refine kq_call (va_runS (As := [.ref (mo + 26), .ref ax]) (rest := [.ref ay, .ref ax, .ref mo]) ⟨hx, hb, hml, hown, hts⟩ (c_Mo_compare l H (mo + 26) ax (v (mo + 26)) (v ax) b26 bx) (va_cwS 2 hts (kt_inS kt_w465 kt_w463 kt_w464 kt_w5) rfl rfl rfl (by decide +kernel) ⟨Nat.le_of_ble_eq_true rfl, Nat.le_of_ble_eq_true rfl⟩) (kq_preS (kq_st_r.both kq_st_r) (⟨s26, sx⟩)) rfl rfl hl.1 rfl (lv_room (Nat.le_of_ble_eq_true rfl)) d_Mo_more_15 ⟨Nat.zero_le _, Nat.zero_le _⟩) (fun v9 H9 L1 hq9 hL1 => ?_)
    obtain ⟨rfl, e9⟩ := hq9
    rw [e9]
    clear e9
    refine W.eq (g2 := F0 m 18 ls [.int (kx_cmp (v (mo + 26)) (v ax)), .ref ay, .ref ax, .ref mo]) rfl ?_
    have hlc1 := t_lL (free := (fun q => q = mo ∨ ks_fr mo q)) hlc0 (fun q z => (hL1 q z).elim)
    refine lv_if_ne hx hb d_Mo_more_18 rfl (fun hxx => ?_) (fun hxx => ?_)
    · refine lv_iconst (v := nI 0) hx hb d_Mo_more_36 (by decide) ?_
      refine kq_ri (show nI 0 = kq_z false from rfl) ?_
      refine kq_call (va_runV (As := [.ref ax, .ref ay, .int (kq_z false)]) (rest := []) ⟨hx, hb, hml, hown, hts⟩ (c_Mo_join l E A mo cZ far bs v H hE hA hG hF hW ax ay false hax0 hay0 hna hny hlo) (cwV 3 hts (kt_inV kt_w578 kt_w575 kt_w577 kt_s20 kt_w5) rfl rfl rfl (by decide +kernel) ⟨Nat.le_of_ble_eq_true rfl, Nat.le_of_ble_eq_true rfl⟩) (kq_preV ((ks_KZ_st E A mo cZ)) (hKZ) (kq_recv hK hOo rfl)) rfl rfl hl.1 rfl (lv_room (Nat.le_of_ble_eq_true rfl)) d_Mo_more_37 ⟨Nat.zero_le _, Nat.zero_le _⟩) (fun v9 H5 L5 hq5 hL5 => ?_)
      obtain ⟨rfl, far2, w5, hX5, e5, k5⟩ := hq5
      refine W.eq (g2 := F0 m 40 ls []) rfl ?_
      exact W.vret hx hb hret (fun t ht _ => ⟨_, rfl, rfl, far2, w5, by rw [ht]; exact hX5, by rw [e5, if_neg (by decide)], k5⟩) (t_lL (free := (fun q => q = mo ∨ ks_fr mo q)) hlc1 hL5) d_Mo_more_40
    · have hxe := kx_cmp_0.mp hxx
      refine lv_aload_n hx hb d_Mo_more_21 rfl (lv_at hl 0 rfl) ?_
      refine kq_get hx hb hts kt_F_Mo hown hK hOo rfl 14 (by decide) kt_w390 rfl d_Mo_more_22 ?_
      refine lv_aload_n hx hb d_Mo_more_25 rfl (lv_at hl 2 rfl) ?_
      refine kq_call (va_runS (As := [.ref (mo + 27), .ref ay]) (rest := [.ref ay, .ref ax, .ref mo]) ⟨hx, hb, hml, hown, hts⟩ (c_Mo_compare l H (mo + 27) ay (v (mo + 27)) (v ay) b27 bY) (va_cwS 2 hts (kt_inS kt_w465 kt_w463 kt_w464 kt_w5) rfl rfl rfl (by decide +kernel) ⟨Nat.le_of_ble_eq_true rfl, Nat.le_of_ble_eq_true rfl⟩) (kq_preS (kq_st_r.both kq_st_r) (⟨s27, sy⟩)) rfl rfl hl.1 rfl (lv_room (Nat.le_of_ble_eq_true rfl)) d_Mo_more_26 ⟨Nat.zero_le _, Nat.zero_le _⟩) (fun v9 H9 L2 hq9 hL2 => ?_)
      obtain ⟨rfl, e9⟩ := hq9
      rw [e9]
      clear e9
      refine W.eq (g2 := F0 m 29 ls [.int (kx_cmp (v (mo + 27)) (v ay)), .ref ay, .ref ax, .ref mo]) rfl ?_
      have hlc2 := t_lL (free := (fun q => q = mo ∨ ks_fr mo q)) hlc1 (fun q z => (hL2 q z).elim)
      refine lv_if_ne hx hb d_Mo_more_29 rfl (fun hyy => ?_) (fun hyy => ?_)
      · refine lv_iconst (v := nI 0) hx hb d_Mo_more_36 (by decide) ?_
        refine kq_ri (show nI 0 = kq_z false from rfl) ?_
        refine kq_call (va_runV (As := [.ref ax, .ref ay, .int (kq_z false)]) (rest := []) ⟨hx, hb, hml, hown, hts⟩ (c_Mo_join l E A mo cZ far bs v H hE hA hG hF hW ax ay false hax0 hay0 hna hny hlo) (cwV 3 hts (kt_inV kt_w578 kt_w575 kt_w577 kt_s20 kt_w5) rfl rfl rfl (by decide +kernel) ⟨Nat.le_of_ble_eq_true rfl, Nat.le_of_ble_eq_true rfl⟩) (kq_preV ((ks_KZ_st E A mo cZ)) (hKZ) (kq_recv hK hOo rfl)) rfl rfl hl.1 rfl (lv_room (Nat.le_of_ble_eq_true rfl)) d_Mo_more_37 ⟨Nat.zero_le _, Nat.zero_le _⟩) (fun v9 H5 L5 hq5 hL5 => ?_)
        obtain ⟨rfl, far2, w5, hX5, e5, k5⟩ := hq5
        refine W.eq (g2 := F0 m 40 ls []) rfl ?_
        exact W.vret hx hb hret (fun t ht _ => ⟨_, rfl, rfl, far2, w5, by rw [ht]; exact hX5, by rw [e5, if_neg (by decide)], k5⟩) (t_lL (free := (fun q => q = mo ∨ ks_fr mo q)) hlc2 hL5) d_Mo_more_40
      · have hye := kx_cmp_0.mp hyy
        refine lv_iconst (v := nI 1) hx hb d_Mo_more_32 (by decide) ?_
        refine kq_ri (show nI 1 = kq_z true from rfl) ?_
        refine lv_goto hx hb d_Mo_more_33 rfl ?_
        refine kq_call (va_runV (As := [.ref ax, .ref ay, .int (kq_z true)]) (rest := []) ⟨hx, hb, hml, hown, hts⟩ (c_Mo_join l E A mo cZ far bs v H hE hA hG hF hW ax ay true hax0 hay0 hna hny hlo) (cwV 3 hts (kt_inV kt_w578 kt_w575 kt_w577 kt_s20 kt_w5) rfl rfl rfl (by decide +kernel) ⟨Nat.le_of_ble_eq_true rfl, Nat.le_of_ble_eq_true rfl⟩) (kq_preV ((ks_KZ_st E A mo cZ)) (hKZ) (kq_recv hK hOo rfl)) rfl rfl hl.1 rfl (lv_room (Nat.le_of_ble_eq_true rfl)) d_Mo_more_37 ⟨Nat.zero_le _, Nat.zero_le _⟩) (fun v9 H5 L5 hq5 hL5 => ?_)
        obtain ⟨rfl, far2, w5, hX5, e5, k5⟩ := hq5
        refine W.eq (g2 := F0 m 40 ls []) rfl ?_
        exact W.vret hx hb hret (fun t ht _ => ⟨_, rfl, rfl, far2, w5, by rw [ht]; exact hX5, by rw [e5, if_pos rfl, hpt, kc_join_some, if_pos hxe, if_pos hye], k5⟩) (t_lL (free := (fun q => q = mo ∨ ks_fr mo q)) hlc2 hL5) d_Mo_more_40
