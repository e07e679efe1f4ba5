/-! KeyCurve$Curve: findByX, finish (own rows). -/
theorem kr_Wb_same {E : kr_E} {sp : Nat} {b : Bool} {w : Nat → Nat} {H : Heap} (hW : kr_W E w H) (hS : kr_Sp E sp b) : kr_Wb E sp b w H := ⟨H, hW, rfl, fun _ _ => rfl, kr_obj hW hS.1 hS.2.1⟩
/-- what lift finds: x is below FIELD and what is under the root has one -/
def kc_has (x : Nat) : Prop := x < kP ∧ kc_root (kc_sq x) * kc_root (kc_sq x) % kP = kc_sq x % kP
theorem kc_has_iff (x : Nat) : kc_has x ↔ x < kP ∧ kc_root (kc_sq x) * kc_root (kc_sq x) % kP = kc_sq x % kP := Iff.rfl
def kc_hasb (x : Nat) : Bool := decide (x < kP ∧ kc_root (kc_sq x) * kc_root (kc_sq x) % kP = kc_sq x % kP)
def kc_y (x : Nat) (d : Bool) : Nat := if d = true then kp_dif kP kP (kc_even (kc_root (kc_sq x))) else kc_even (kc_root (kc_sq x))
theorem d_Cu_findByX_0 : decode b_Cu_findByX 0 = .ok (.aload_n 2, 1) := by decide +kernel
theorem d_Cu_findByX_1 : decode b_Cu_findByX 1 = .ok (.getstatic 79, 3) := by decide +kernel
theorem d_Cu_findByX_4 : decode b_Cu_findByX 4 = .ok (.invokestatic 85, 3) := by decide +kernel
theorem d_Cu_findByX_7 : decode b_Cu_findByX 7 = .ok (.ifCond .ne 5, 3) := by decide +kernel
theorem d_Cu_findByX_10 : decode b_Cu_findByX 10 = .ok (.iconst 0, 1) := by decide +kernel
theorem d_Cu_findByX_11 : decode b_Cu_findByX 11 = .ok (.ireturn, 1) := by decide +kernel
theorem d_Cu_findByX_12 : decode b_Cu_findByX 12 = .ok (.aload_n 0, 1) := by decide +kernel
theorem d_Cu_findByX_13 : decode b_Cu_findByX 13 = .ok (.aload_n 0, 1) := by decide +kernel
theorem d_Cu_findByX_14 : decode b_Cu_findByX 14 = .ok (.getfield 30, 3) := by decide +kernel
theorem d_Cu_findByX_17 : decode b_Cu_findByX 17 = .ok (.aload_n 2, 1) := by decide +kernel
theorem d_Cu_findByX_18 : decode b_Cu_findByX 18 = .ok (.invokevirtual 88, 3) := by decide +kernel
theorem d_Cu_findByX_21 : decode b_Cu_findByX 21 = .ok (.aload_n 0, 1) := by decide +kernel
theorem d_Cu_findByX_22 : decode b_Cu_findByX 22 = .ok (.aload_n 0, 1) := by decide +kernel
theorem d_Cu_findByX_23 : decode b_Cu_findByX 23 = .ok (.getfield 24, 3) := by decide +kernel
theorem d_Cu_findByX_26 : decode b_Cu_findByX 26 = .ok (.aload_n 0, 1) := by decide +kernel
theorem d_Cu_findByX_27 : decode b_Cu_findByX 27 = .ok (.getfield 30, 3) := by decide +kernel
theorem d_Cu_findByX_30 : decode b_Cu_findByX 30 = .ok (.invokevirtual 91, 3) := by decide +kernel
theorem d_Cu_findByX_33 : decode b_Cu_findByX 33 = .ok (.ifCond .ne 5, 3) := by decide +kernel
theorem d_Cu_findByX_36 : decode b_Cu_findByX 36 = .ok (.iconst 0, 1) := by decide +kernel
theorem d_Cu_findByX_37 : decode b_Cu_findByX 37 = .ok (.ireturn, 1) := by decide +kernel
theorem d_Cu_findByX_38 : decode b_Cu_findByX 38 = .ok (.iload_n 3, 1) := by decide +kernel
theorem d_Cu_findByX_39 : decode b_Cu_findByX 39 = .ok (.ifCond .eq 21, 3) := by decide +kernel
theorem d_Cu_findByX_42 : decode b_Cu_findByX 42 = .ok (.aload_n 0, 1) := by decide +kernel
theorem d_Cu_findByX_43 : decode b_Cu_findByX 43 = .ok (.getfield 45, 3) := by decide +kernel
theorem d_Cu_findByX_46 : decode b_Cu_findByX 46 = .ok (.aload_n 0, 1) := by decide +kernel
theorem d_Cu_findByX_47 : decode b_Cu_findByX 47 = .ok (.getfield 24, 3) := by decide +kernel
theorem d_Cu_findByX_50 : decode b_Cu_findByX 50 = .ok (.getstatic 79, 3) := by decide +kernel
theorem d_Cu_findByX_53 : decode b_Cu_findByX 53 = .ok (.aload_n 0, 1) := by decide +kernel
theorem d_Cu_findByX_54 : decode b_Cu_findByX 54 = .ok (.getfield 24, 3) := by decide +kernel
theorem d_Cu_findByX_57 : decode b_Cu_findByX 57 = .ok (.invokevirtual 82, 3) := by decide +kernel
theorem d_Cu_findByX_60 : decode b_Cu_findByX 60 = .ok (.aload_n 1, 1) := by decide +kernel
theorem d_Cu_findByX_61 : decode b_Cu_findByX 61 = .ok (.aload_n 2, 1) := by decide +kernel
theorem d_Cu_findByX_62 : decode b_Cu_findByX 62 = .ok (.aload_n 0, 1) := by decide +kernel
theorem d_Cu_findByX_63 : decode b_Cu_findByX 63 = .ok (.getfield 24, 3) := by decide +kernel
theorem d_Cu_findByX_66 : decode b_Cu_findByX 66 = .ok (.invokevirtual 94, 3) := by decide +kernel
theorem d_Cu_findByX_69 : decode b_Cu_findByX 69 = .ok (.iconst 1, 1) := by decide +kernel
theorem d_Cu_findByX_70 : decode b_Cu_findByX 70 = .ok (.ireturn, 1) := by decide +kernel
set_option maxHeartbeats 4000000 in
set_option maxRecDepth 100000 in
theorem c_Cu_findByX (l : Launch) (E : kr_E) (A : Nat → Nat) (h pa ga gw G hc sp : Nat) (v : Nat → Nat) (H : Heap) (hE : kr_ok E) (hA : kr_A E A) (hP : kr_P E h pa ga gw kP G) (hV : kr_V E hc h) (hW : kr_W E v H) (b d : Bool) (hS : kr_Sp E sp b) (hsp : sp + 2 < h) (ax : Nat) (hax : kr_out E ax) (hxh : ax < h) (hxs : ax ≠ sp + 1 ∧ ax ≠ sp + 2) : Met l y_Cu_findByX w_Cu_findByX ({ frames := 5, cells := 0, slots := 0, locals := 121 }) (kq_P [.ref hc, .ref sp, .ref ax, .int (kq_z d)] H (kr_C E A)) (kq_Q (fun o1 H1 => o1 = some (.int (kq_z (kc_hasb (v ax)))) ∧ ∃ w : Nat → Nat, kr_Wb E sp (if kc_hasb (v ax) = true then false else b) w H1 ∧ w (sp + 1) = (if kc_hasb (v ax) = true then v ax else v (sp + 1)) ∧ w (sp + 2) = (if kc_hasb (v ax) = true then kc_y (v ax) d else v (sp + 2)) ∧ ∀ q, q ≠ sp + 1 → q ≠ sp + 2 → ¬ kr_fr h hc q → w q = v q)) 0 0 (fun q => q = sp ∨ q = sp + 1 ∨ q = sp + 2 ∨ kr_fr h hc q) := by
  refine Met.ofW (cc := b_Cu_findByX) (maxL := 4) (ret := (some .boolean)) (by decide) rfl ?_
  intro p e s m args below meth c s₁ B0 hml hv
  obtain ⟨rfl, hH, hC⟩ := hv
  have hx := B0.exec
  have hb := B0.bytes
  have hret := B0.returns
  have hts := atoms_spec (ws := w_Cu_findByX) B0.pre
  have hown : s.vm.findClass R_Cu = some m.cls := findClass_of_methodNamed B0.named
  have hlocks := B0.notSynchronized
  rw [hH]
  have hl := lv_entry ([.ref hc, .ref sp, .ref ax, .int (kq_z d)]) (n := 4) (Nat.le_of_ble_eq_true rfl)
  rw [lg_entry_eq]
  generalize (lg_sl ([.ref hc, .ref sp, .ref ax, .int (kq_z d)]) ++ List.replicate (4 - (lg_sl ([.ref hc, .ref sp, .ref ax, .int (kq_z d)])).length) Slot.unset).toArray = ls at hl ⊢
  have hl : lv_has ls 4 [(0, .ref hc), (1, .ref sp), (2, .ref ax), (3, .int (kq_z d))] := hl
  have hB := hC.1
  have hT := kr_T hE hB
  have hK := hB.1
  have hhc := hV.2.2.2
  have h5 := hV.2.2.1 5 (by decide) (by decide)
  have h7 := hV.2.2.1 7 (by decide) (by decide)
  have hlc0 : ∀ q ∈ ([] : List Loc), q.base = sp ∨ q.base = sp + 1 ∨ q.base = sp + 2 ∨ kr_fr h hc q.base := fun q h => by cases h
  have hO := kr_obj hW hV.1 hV.2.1
  have hsx := kr_src hE hW hB (Or.inl hax)
  have hlx := kr_lt hE hW (Or.inl hax)
  have hsf := kr_src hE hW hB (Or.inr hA.1.1)
  have hlf := kr_lt hE hW (Or.inr hA.1.1)
  rw [kr_cst hW hA.1] at hsf hlf
  refine lv_aload_n hx hb d_Cu_findByX_0 rfl (lv_at hl 2 rfl) ?_
  refine kq_getsN hx hb (kr_zat hW hC.2.2.1) hown hC.2.1.2.2.1 d_Cu_findByX_1 ?_
  refine kq_call (va_runS (As := [.ref ax, .ref (A 0)]) (rest := []) ⟨hx, hb, hml, hown, hts⟩ (c_Wo_isBelow l H ax (A 0) (v ax) kP hlx hlf) (va_cwS 2 hts (kt_inS kt_w187 kt_w298 kt_w186 kt_w6) rfl rfl rfl (by decide +kernel) ⟨Nat.le_of_ble_eq_true rfl, Nat.le_of_ble_eq_true rfl⟩) (kq_preS (kq_st_r.both kq_st_r) (⟨hsx, hsf⟩)) rfl rfl hl.1 rfl (lv_room (Nat.le_of_ble_eq_true rfl)) d_Cu_findByX_4 ⟨Nat.zero_le _, Nat.zero_le _⟩) (fun v9 H9 L9 hq9 hL9 => ?_)
  obtain ⟨rfl, e9⟩ := hq9
  rw [e9]
  clear e9
  refine W.eq (g2 := F0 m 7 ls [.int (kq_z (decide (v ax < kP)))]) rfl ?_
  have hlc1 := t_lL (free := (fun q => q = sp ∨ q = sp + 1 ∨ q = sp + 2 ∨ kr_fr h hc q)) hlc0 (fun q z => (hL9 q z).elim)
  refine lv_if_ne hx hb d_Cu_findByX_7 rfl (fun hc0 => ?_) (fun hc0 => ?_)
  · have hx0 : v ax < kP := kq_z_ne.mp hc0
    refine lv_aload_n hx hb d_Cu_findByX_12 rfl (lv_at hl 0 rfl) ?_
    refine lv_aload_n hx hb d_Cu_findByX_13 rfl (lv_at hl 0 rfl) ?_
    refine kq_get hx hb hts kt_F_Cu hown hK hO rfl 7 (by decide) kt_w106 rfl d_Cu_findByX_14 ?_
    refine lv_aload_n hx hb d_Cu_findByX_17 rfl (lv_at hl 2 rfl) ?_
    refine kq_call (va_runV (As := [.ref (hc + 7), .ref ax]) (rest := []) ⟨hx, hb, hml, hown, hts⟩ (c_Cu_putSquareOfY l E A h pa ga gw G hc v H hE hA hP hV hW ax hax hxh) (cwV 2 hts (kt_inV kt_w302 kt_w299 kt_w301 kt_s6 kt_w4) rfl rfl rfl (by decide +kernel) ⟨Nat.le_of_ble_eq_true rfl, Nat.le_of_ble_eq_true rfl⟩) (kq_p2V (kr_C_s2 E A) (hC) (kq_recv hC.1.1 hO rfl)) rfl rfl hl.1 rfl (lv_room (Nat.le_of_ble_eq_true rfl)) d_Cu_findByX_18 ⟨Nat.zero_le _, Nat.zero_le _⟩) (fun u2 H2 L2 hq2 hL2 => ?_)
    obtain ⟨rfl, w2, hW2, e2, k2⟩ := hq2
    refine W.eq (g2 := F0 m 21 ls []) rfl ?_
    have hlc2 := t_lL (free := (fun q => q = sp ∨ q = sp + 1 ∨ q = sp + 2 ∨ kr_fr h hc q)) hlc1 (fun q z => Or.inr (Or.inr (Or.inr (hL2 q z))))
    have hO2 := kr_obj hW2 hV.1 hV.2.1
    refine lv_aload_n hx hb d_Cu_findByX_21 rfl (lv_at hl 0 rfl) ?_
    refine lv_aload_n hx hb d_Cu_findByX_22 rfl (lv_at hl 0 rfl) ?_
    refine kq_get hx hb hts kt_F_Cu hown hK hO2 rfl 5 (by decide) kt_w104 rfl d_Cu_findByX_23 ?_
    refine lv_aload_n hx hb d_Cu_findByX_26 rfl (lv_at hl 0 rfl) ?_
    refine kq_get hx hb hts kt_F_Cu hown hK hO2 rfl 7 (by decide) kt_w106 rfl d_Cu_findByX_27 ?_
    refine kq_call (va_runV (As := [.ref (hc + 5), .ref (hc + 7)]) (rest := []) ⟨hx, hb, hml, hown, hts⟩ (c_Cu_evenRoot l E A h pa ga gw G hc w2 H2 hE hA hP hV hW2 (hc + 5) (hc + 7) h5 h7 (Or.inr rfl) (Or.inr rfl)) (cwV 2 hts (kt_inV kt_w254 kt_w314 kt_w252 kt_w253 kt_w4) rfl rfl rfl (by decide +kernel) ⟨Nat.le_of_ble_eq_true rfl, Nat.le_of_ble_eq_true rfl⟩) (kq_p2V (kr_C_s2 E A) (hC) (kq_recv hC.1.1 hO2 rfl)) rfl rfl hl.1 rfl (lv_room (Nat.le_of_ble_eq_true rfl)) d_Cu_findByX_30 ⟨Nat.zero_le _, Nat.zero_le _⟩) (fun u3 H3 L3 hq3 hL3 => ?_)
    obtain ⟨rfl, w3, hW3, e3, k3⟩ := hq3
    refine W.eq (g2 := F0 m 33 ls [.int (kq_z (decide (kc_root (w2 (hc + 7)) * kc_root (w2 (hc + 7)) % kP = w2 (hc + 7) % kP)))]) rfl ?_
    have hlc3 := t_lL (free := (fun q => q = sp ∨ q = sp + 1 ∨ q = sp + 2 ∨ kr_fr h hc q)) hlc2 (fun q z => Or.inr (Or.inr (Or.inr ((hL3 q z).elim (fun z => by rw [z]; unfold kr_fr; omega) id))))
    have k3' : ∀ q, ¬ kr_fr h hc q → w3 q = v q := fun q hq => by
      have hq1 := hq
      unfold kr_fr at hq1
      rw [k3 q (by omega) hq]
      exact k2 q hq
    rw [e2] at e3
    refine lv_if_ne hx hb d_Cu_findByX_33 rfl (fun hc1 => ?_) (fun hc1 => ?_)
    · have hrt : kc_root (kc_sq (v ax)) * kc_root (kc_sq (v ax)) % kP = kc_sq (v ax) % kP := by
        have q := kq_z_ne.mp hc1
        rw [e2] at q
        exact q
      have hb1 : kc_hasb (v ax) = true := decide_eq_true ⟨hx0, hrt⟩
      rw [if_pos hrt] at e3
      have hO3 := kr_obj hW3 hV.1 hV.2.1
      refine lv_iload_n hx hb d_Cu_findByX_38 rfl (lv_at hl 3 rfl) ?_
      refine lv_if_eq hx hb d_Cu_findByX_39 rfl (fun hd0 => ?_) (fun hd0 => ?_)
      · have hd := kq_z_b0 hd0
        have ey : w3 (hc + 5) = kc_y (v ax) d := by
          rw [e3]
          unfold kc_y
          rw [hd, if_neg (by decide)]
        have hOz := kr_obj hW3 hV.1 hV.2.1
        have hOs := kr_obj hW3 hS.1 hS.2.1
        refine lv_aload_n hx hb d_Cu_findByX_60 rfl (lv_at hl 1 rfl) ?_
        refine lv_aload_n hx hb d_Cu_findByX_61 rfl (lv_at hl 2 rfl) ?_
        refine lv_aload_n hx hb d_Cu_findByX_62 rfl (lv_at hl 0 rfl) ?_
        refine kq_get hx hb hts kt_F_Cu hown hK hOz rfl 5 (by decide) kt_w104 rfl d_Cu_findByX_63 ?_
        refine kq_call (va_runV (As := [.ref ax, .ref (hc + 5)]) (rest := []) ⟨hx, hb, hml, hown, hts⟩ (c_Sp_become l E w3 H3 hE hW3 sp b hS ax (hc + 5) (Or.inl hax) (Or.inl h5) (by omega)) (cwV 2 hts (kt_inV kt_w284 kt_w315 kt_w282 kt_w283 kt_w2) rfl rfl rfl (by decide +kernel) ⟨Nat.le_of_ble_eq_true rfl, Nat.le_of_ble_eq_true rfl⟩) (kq_preV (kr_st E) (hB) (kq_recv hC.1.1 hOs rfl)) rfl rfl hl.1 rfl (lv_room (Nat.le_of_ble_eq_true rfl)) d_Cu_findByX_66 ⟨Nat.zero_le _, Nat.zero_le _⟩) (fun u8 H8 L8 hq8 hL8 => ?_)
        obtain ⟨rfl, hX8⟩ := hq8
        refine W.eq (g2 := F0 m 69 ls []) rfl ?_
        refine lv_iconst (v := nI 1) hx hb d_Cu_findByX_69 (by decide) ?_
        refine W.zret hx hb hret rfl (fun t ht _ => ⟨_, rfl, by rw [hb1]; rfl, _, by rw [ht, if_pos hb1]; exact hX8, ?_, ?_, fun q q1 q2 q3 => ?_⟩) (t_lL (free := (fun q => q = sp ∨ q = sp + 1 ∨ q = sp + 2 ∨ kr_fr h hc q)) hlc3 (fun q z => by rcases hL8 q z with z | z | z <;> simp [z])) d_Cu_findByX_70
        · rw [if_pos hb1, kq_up_ne (by omega), kq_up_at]
          exact k3' ax (by unfold kr_fr; omega)
        · rw [if_pos hb1, kq_up_at, ey]
        · rw [kq_up_ne q2, kq_up_ne q1]
          exact k3' q q3
      · have hd := kq_z_b1 hd0
        have hOp3 := kr_obj hW3 hP.1 hP.2.1
        refine lv_aload_n hx hb d_Cu_findByX_42 rfl (lv_at hl 0 rfl) ?_
        refine kq_get hx hb hts kt_F_Cu hown hK hO3 rfl 0 (by decide) kt_w99 rfl d_Cu_findByX_43 ?_
        refine lv_aload_n hx hb d_Cu_findByX_46 rfl (lv_at hl 0 rfl) ?_
        refine kq_get hx hb hts kt_F_Cu hown hK hO3 rfl 5 (by decide) kt_w104 rfl d_Cu_findByX_47 ?_
        refine kq_getsN hx hb (kr_zat hW3 hC.2.2.1) hown hC.2.1.2.2.1 d_Cu_findByX_50 ?_
        refine lv_aload_n hx hb d_Cu_findByX_53 rfl (lv_at hl 0 rfl) ?_
        refine kq_get hx hb hts kt_F_Cu hown hK hO3 rfl 5 (by decide) kt_w104 rfl d_Cu_findByX_54 ?_
        refine kq_call (va_runV (As := [.ref (hc + 5), .ref (A 0), .ref (hc + 5)]) (rest := []) ⟨hx, hb, hml, hown, hts⟩ (c_Pr_difference l E h pa ga gw kP G w3 H3 hE hP hW3 (hc + 5) (A 0) (hc + 5) h5 (Or.inr hA.1.1) (Or.inl h5)) (cwV 3 hts (kt_inV kt_w198 kt_w268 kt_w196 kt_w197 kt_w3) rfl rfl rfl (by decide +kernel) ⟨Nat.le_of_ble_eq_true rfl, Nat.le_of_ble_eq_true rfl⟩) (kq_preV (kr_st E) (hB) (kq_recv hB.1 hOp3 rfl)) rfl rfl hl.1 rfl (lv_room (Nat.le_of_ble_eq_true rfl)) d_Cu_findByX_57 ⟨Nat.zero_le _, Nat.zero_le _⟩) (fun u4 H4 L4 hq4 hL4 => ?_)
        obtain ⟨rfl, hX4⟩ := hq4
        refine W.eq (g2 := F0 m 60 ls []) rfl ?_
        have hlc4 := t_lL (free := (fun q => q = sp ∨ q = sp + 1 ∨ q = sp + 2 ∨ kr_fr h hc q)) hlc3 (fun q z => Or.inr (Or.inr (Or.inr (by rw [hL4 q z]; unfold kr_fr; omega))))
        obtain ⟨w4, f4, o4, hW4⟩ : ∃ w : Nat → Nat, w (hc + 5) = kp_dif kP (w3 (A 0)) (w3 (hc + 5)) ∧ (∀ q, q ≠ hc + 5 → w q = w3 q) ∧ kr_W E w H4 := ⟨_, kq_up_at, fun q hq => kq_up_ne hq, hX4⟩
        have ey : w4 (hc + 5) = kc_y (v ax) d := by
          rw [f4, e3, kr_cst hW3 hA.1]
          unfold kc_y
          rw [hd, if_pos rfl]
        have k4 : ∀ q, ¬ kr_fr h hc q → w4 q = v q := fun q hq => by
          have hq1 := hq
          unfold kr_fr at hq1
          rw [o4 q (by omega)]
          exact k3' q hq
        have hOz := kr_obj hW4 hV.1 hV.2.1
        have hOs := kr_obj hW4 hS.1 hS.2.1
        refine lv_aload_n hx hb d_Cu_findByX_60 rfl (lv_at hl 1 rfl) ?_
        refine lv_aload_n hx hb d_Cu_findByX_61 rfl (lv_at hl 2 rfl) ?_
        refine lv_aload_n hx hb d_Cu_findByX_62 rfl (lv_at hl 0 rfl) ?_
        refine kq_get hx hb hts kt_F_Cu hown hK hOz rfl 5 (by decide) kt_w104 rfl d_Cu_findByX_63 ?_
        refine kq_call (va_runV (As := [.ref ax, .ref (hc + 5)]) (rest := []) ⟨hx, hb, hml, hown, hts⟩ (c_Sp_become l E w4 H4 hE hW4 sp b hS ax (hc + 5) (Or.inl hax) (Or.inl h5) (by omega)) (cwV 2 hts (kt_inV kt_w284 kt_w315 kt_w282 kt_w283 kt_w2) rfl rfl rfl (by decide +kernel) ⟨Nat.le_of_ble_eq_true rfl, Nat.le_of_ble_eq_true rfl⟩) (kq_preV (kr_st E) (hB) (kq_recv hC.1.1 hOs rfl)) rfl rfl hl.1 rfl (lv_room (Nat.le_of_ble_eq_true rfl)) d_Cu_findByX_66 ⟨Nat.zero_le _, Nat.zero_le _⟩) (fun u8 H8 L8 hq8 hL8 => ?_)
        obtain ⟨rfl, hX8⟩ := hq8
        refine W.eq (g2 := F0 m 69 ls []) rfl ?_
        refine lv_iconst (v := nI 1) hx hb d_Cu_findByX_69 (by decide) ?_
        refine W.zret hx hb hret rfl (fun t ht _ => ⟨_, rfl, by rw [hb1]; rfl, _, by rw [ht, if_pos hb1]; exact hX8, ?_, ?_, fun q q1 q2 q3 => ?_⟩) (t_lL (free := (fun q => q = sp ∨ q = sp + 1 ∨ q = sp + 2 ∨ kr_fr h hc q)) hlc4 (fun q z => by rcases hL8 q z with z | z | z <;> simp [z])) d_Cu_findByX_70
        · rw [if_pos hb1, kq_up_ne (by omega), kq_up_at]
          exact k4 ax (by unfold kr_fr; omega)
        · rw [if_pos hb1, kq_up_at, ey]
        · rw [kq_up_ne q2, kq_up_ne q1]
          exact k4 q q3
    · have hrt : ¬ kc_root (kc_sq (v ax)) * kc_root (kc_sq (v ax)) % kP = kc_sq (v ax) % kP := by
        have q := kq_z_eq.mp hc1
        rw [e2] at q
        exact q
      have hb1 : ¬ kc_hasb (v ax) = true := fun q => hrt (of_decide_eq_true q).2
      have hb2 : kc_hasb (v ax) = false := by cases hq : kc_hasb (v ax) <;> simp_all
      refine lv_iconst (v := nI 0) hx hb d_Cu_findByX_36 (by decide) ?_
      exact W.zret hx hb hret rfl (fun t ht _ => ⟨_, rfl, by rw [hb2]; rfl, w3, by rw [ht, if_neg hb1]; exact kr_Wb_same hW3 hS, by rw [if_neg hb1]; exact k3' _ (by unfold kr_fr; omega), by rw [if_neg hb1]; exact k3' _ (by unfold kr_fr; omega), fun q _ _ q3 => k3' q q3⟩) hlc3 d_Cu_findByX_37
  · have hn := kq_z_eq.mp hc0
    have hb1 : ¬ kc_hasb (v ax) = true := fun q => hn (of_decide_eq_true q).1
    have hb2 : kc_hasb (v ax) = false := by cases hq : kc_hasb (v ax) <;> simp_all
    refine lv_iconst (v := nI 0) hx hb d_Cu_findByX_10 (by decide) ?_
    exact W.zret hx hb hret rfl (fun t ht _ => ⟨_, rfl, by rw [hb2]; rfl, v, by rw [ht, if_neg hb1]; exact kr_Wb_same hW hS, by rw [if_neg hb1], by rw [if_neg hb1], fun _ _ _ _ => rfl⟩) hlc1 d_Cu_findByX_11
theorem d_Cu_finish_0 : decode b_Cu_finish 0 = .ok (.aload_n 0, 1) := by decide +kernel
theorem d_Cu_finish_1 : decode b_Cu_finish 1 = .ok (.getfield 45, 3) := by decide +kernel
theorem d_Cu_finish_4 : decode b_Cu_finish 4 = .ok (.aload_n 0, 1) := by decide +kernel
theorem d_Cu_finish_5 : decode b_Cu_finish 5 = .ok (.getfield 21, 3) := by decide +kernel
theorem d_Cu_finish_8 : decode b_Cu_finish 8 = .ok (.aload_n 0, 1) := by decide +kernel
theorem d_Cu_finish_9 : decode b_Cu_finish 9 = .ok (.getfield 18, 3) := by decide +kernel
theorem d_Cu_finish_12 : decode b_Cu_finish 12 = .ok (.invokevirtual 137, 3) := by decide +kernel
theorem d_Cu_finish_15 : decode b_Cu_finish 15 = .ok (.ifCond .ne 9, 3) := by decide +kernel
theorem d_Cu_finish_18 : decode b_Cu_finish 18 = .ok (.aload_n 1, 1) := by decide +kernel
theorem d_Cu_finish_19 : decode b_Cu_finish 19 = .ok (.iconst 1, 1) := by decide +kernel
theorem d_Cu_finish_20 : decode b_Cu_finish 20 = .ok (.putfield 122, 3) := by decide +kernel
theorem d_Cu_finish_23 : decode b_Cu_finish 23 = .ok (.return_, 1) := by decide +kernel
theorem d_Cu_finish_24 : decode b_Cu_finish 24 = .ok (.aload_n 0, 1) := by decide +kernel
theorem d_Cu_finish_25 : decode b_Cu_finish 25 = .ok (.getfield 45, 3) := by decide +kernel
theorem d_Cu_finish_28 : decode b_Cu_finish 28 = .ok (.aload_n 0, 1) := by decide +kernel
theorem d_Cu_finish_29 : decode b_Cu_finish 29 = .ok (.getfield 27, 3) := by decide +kernel
theorem d_Cu_finish_32 : decode b_Cu_finish 32 = .ok (.aload_n 0, 1) := by decide +kernel
theorem d_Cu_finish_33 : decode b_Cu_finish 33 = .ok (.getfield 21, 3) := by decide +kernel
theorem d_Cu_finish_36 : decode b_Cu_finish 36 = .ok (.aload_n 0, 1) := by decide +kernel
theorem d_Cu_finish_37 : decode b_Cu_finish 37 = .ok (.getfield 21, 3) := by decide +kernel
theorem d_Cu_finish_40 : decode b_Cu_finish 40 = .ok (.invokevirtual 68, 3) := by decide +kernel
theorem d_Cu_finish_43 : decode b_Cu_finish 43 = .ok (.aload_n 0, 1) := by decide +kernel
theorem d_Cu_finish_44 : decode b_Cu_finish 44 = .ok (.getfield 45, 3) := by decide +kernel
theorem d_Cu_finish_47 : decode b_Cu_finish 47 = .ok (.aload_n 0, 1) := by decide +kernel
theorem d_Cu_finish_48 : decode b_Cu_finish 48 = .ok (.getfield 30, 3) := by decide +kernel
theorem d_Cu_finish_51 : decode b_Cu_finish 51 = .ok (.aload_n 0, 1) := by decide +kernel
theorem d_Cu_finish_52 : decode b_Cu_finish 52 = .ok (.getfield 27, 3) := by decide +kernel
theorem d_Cu_finish_55 : decode b_Cu_finish 55 = .ok (.aload_n 0, 1) := by decide +kernel
theorem d_Cu_finish_56 : decode b_Cu_finish 56 = .ok (.getfield 21, 3) := by decide +kernel
theorem d_Cu_finish_59 : decode b_Cu_finish 59 = .ok (.invokevirtual 68, 3) := by decide +kernel
theorem d_Cu_finish_62 : decode b_Cu_finish 62 = .ok (.aload_n 0, 1) := by decide +kernel
theorem d_Cu_finish_63 : decode b_Cu_finish 63 = .ok (.getfield 45, 3) := by decide +kernel
theorem d_Cu_finish_66 : decode b_Cu_finish 66 = .ok (.aload_n 0, 1) := by decide +kernel
theorem d_Cu_finish_67 : decode b_Cu_finish 67 = .ok (.getfield 9, 3) := by decide +kernel
theorem d_Cu_finish_70 : decode b_Cu_finish 70 = .ok (.aload_n 0, 1) := by decide +kernel
theorem d_Cu_finish_71 : decode b_Cu_finish 71 = .ok (.getfield 9, 3) := by decide +kernel
theorem d_Cu_finish_74 : decode b_Cu_finish 74 = .ok (.aload_n 0, 1) := by decide +kernel
theorem d_Cu_finish_75 : decode b_Cu_finish 75 = .ok (.getfield 27, 3) := by decide +kernel
theorem d_Cu_finish_78 : decode b_Cu_finish 78 = .ok (.invokevirtual 68, 3) := by decide +kernel
theorem d_Cu_finish_81 : decode b_Cu_finish 81 = .ok (.aload_n 0, 1) := by decide +kernel
theorem d_Cu_finish_82 : decode b_Cu_finish 82 = .ok (.getfield 45, 3) := by decide +kernel
theorem d_Cu_finish_85 : decode b_Cu_finish 85 = .ok (.aload_n 0, 1) := by decide +kernel
theorem d_Cu_finish_86 : decode b_Cu_finish 86 = .ok (.getfield 15, 3) := by decide +kernel
theorem d_Cu_finish_89 : decode b_Cu_finish 89 = .ok (.aload_n 0, 1) := by decide +kernel
theorem d_Cu_finish_90 : decode b_Cu_finish 90 = .ok (.getfield 15, 3) := by decide +kernel
theorem d_Cu_finish_93 : decode b_Cu_finish 93 = .ok (.aload_n 0, 1) := by decide +kernel
theorem d_Cu_finish_94 : decode b_Cu_finish 94 = .ok (.getfield 30, 3) := by decide +kernel
theorem d_Cu_finish_97 : decode b_Cu_finish 97 = .ok (.invokevirtual 68, 3) := by decide +kernel
theorem d_Cu_finish_100 : decode b_Cu_finish 100 = .ok (.aload_n 1, 1) := by decide +kernel
theorem d_Cu_finish_101 : decode b_Cu_finish 101 = .ok (.aload_n 0, 1) := by decide +kernel
theorem d_Cu_finish_102 : decode b_Cu_finish 102 = .ok (.getfield 9, 3) := by decide +kernel
theorem d_Cu_finish_105 : decode b_Cu_finish 105 = .ok (.aload_n 0, 1) := by decide +kernel
theorem d_Cu_finish_106 : decode b_Cu_finish 106 = .ok (.getfield 15, 3) := by decide +kernel
theorem d_Cu_finish_109 : decode b_Cu_finish 109 = .ok (.invokevirtual 94, 3) := by decide +kernel
theorem d_Cu_finish_112 : decode b_Cu_finish 112 = .ok (.return_, 1) := by decide +kernel
set_option maxHeartbeats 4000000 in
set_option maxRecDepth 100000 in
theorem c_Cu_finish (l : Launch) (E : kr_E) (A : Nat → Nat) (h pa ga gw G hc sp : Nat) (v : Nat → Nat) (H : Heap) (hE : kr_ok E) (hA : kr_A E A) (hP : kr_P E h pa ga gw kP G) (hV : kr_V E hc h) (hW : kr_W E v H) (b : Bool) (hS : kr_Sp E sp b) (hsp : sp + 2 < h) (o : Option (Nat × Nat)) (hrep : kc_rep o (v (hc + 1)) (v (hc + 2)) (v (hc + 3))) : Met l y_Cu_finish w_Cu_finish ({ frames := 5, cells := 0, slots := 0, locals := 121 }) (kq_P [.ref hc, .ref sp] H (kr_C E A)) (kq_Q (fun o1 H1 => o1 = none ∧ ∃ w : Nat → Nat, kr_Wb E sp o.isNone w H1 ∧ (∀ q0, o = some q0 → w (sp + 1) = q0.1 ∧ w (sp + 2) = q0.2) ∧ (o = none → w (sp + 1) = v (sp + 1) ∧ w (sp + 2) = v (sp + 2)) ∧ ∀ q, q ≠ sp + 1 → q ≠ sp + 2 → ¬ kr_fr h hc q → w q = v q)) 0 0 (fun q => q = sp ∨ q = sp + 1 ∨ q = sp + 2 ∨ kr_fr h hc q) := by
  refine Met.ofW (cc := b_Cu_finish) (maxL := 2) (ret := none) (by decide) rfl ?_
  intro p e s m args below meth c s₁ B0 hml hv
  obtain ⟨rfl, hH, hC⟩ := hv
  have hx := B0.exec
  have hb := B0.bytes
  have hret := B0.returns
  have hts := atoms_spec (ws := w_Cu_finish) B0.pre
  have hown : s.vm.findClass R_Cu = some m.cls := findClass_of_methodNamed B0.named
  have hlocks := B0.notSynchronized
  rw [hH]
  have hl := lv_entry ([.ref hc, .ref sp]) (n := 2) (Nat.le_of_ble_eq_true rfl)
  rw [lg_entry_eq]
  generalize (lg_sl ([.ref hc, .ref sp]) ++ List.replicate (2 - (lg_sl ([.ref hc, .ref sp])).length) Slot.unset).toArray = ls at hl ⊢
  have hl : lv_has ls 2 [(0, .ref hc), (1, .ref sp)] := hl
  have hB := hC.1
  have hT := kr_T hE hB
  have hK := hB.1
  have hhc := hV.2.2.2
  have h1 := hV.2.2.1 1 (by decide) (by decide)
  have h2 := hV.2.2.1 2 (by decide) (by decide)
  have h3 := hV.2.2.1 3 (by decide) (by decide)
  have h4 := hV.2.2.1 4 (by decide) (by decide)
  have hlc0 : ∀ q ∈ ([] : List Loc), q.base = sp ∨ q.base = sp + 1 ∨ q.base = sp + 2 ∨ kr_fr h hc q.base := fun q h => by cases h
  have hO := kr_obj hW hV.1 hV.2.1
  have hOp := kr_obj hW hP.1 hP.2.1
  have hzm : v (hc + 3) % kP = v (hc + 3) := Nat.mod_eq_of_lt hrep.1
  refine lv_aload_n hx hb d_Cu_finish_0 rfl (lv_at hl 0 rfl) ?_
  refine kq_get hx hb hts kt_F_Cu hown hK hO rfl 0 (by decide) kt_w99 rfl d_Cu_finish_1 ?_
  refine lv_aload_n hx hb d_Cu_finish_4 rfl (lv_at hl 0 rfl) ?_
  refine kq_get hx hb hts kt_F_Cu hown hK hO rfl 4 (by decide) kt_w103 rfl d_Cu_finish_5 ?_
  refine lv_aload_n hx hb d_Cu_finish_8 rfl (lv_at hl 0 rfl) ?_
  refine kq_get hx hb hts kt_F_Cu hown hK hO rfl 3 (by decide) kt_w102 rfl d_Cu_finish_9 ?_
  refine kq_call (va_runV (As := [.ref (hc + 4), .ref (hc + 3)]) (rest := []) ⟨hx, hb, hml, hown, hts⟩ (c_Pr_inverse l E A h pa ga gw kP G v H hE hA hP hW (hc + 4) (hc + 3) h4 (Or.inl h3) (by omega)) (cwV 2 hts (kt_inV kt_w233 kt_w347 kt_w231 kt_w232 kt_w3) rfl rfl rfl (by decide +kernel) ⟨Nat.le_of_ble_eq_true rfl, Nat.le_of_ble_eq_true rfl⟩) (kq_p2V (kr_C_s2 E A) (hC) (kq_recv hC.1.1 hOp rfl)) rfl rfl hl.1 rfl (lv_room (Nat.le_of_ble_eq_true rfl)) d_Cu_finish_12 ⟨Nat.zero_le _, Nat.zero_le _⟩) (fun u1 H1 L1 hq1 hL1 => ?_)
  obtain ⟨rfl, w1, hW1, f1, o1⟩ := hq1
  refine W.eq (g2 := F0 m 15 ls [.int (kq_z (decide (¬ v (hc + 3) % kP = 0)))]) rfl ?_
  rw [hzm] at f1
  have hlc1 := t_lL (free := (fun q => q = sp ∨ q = sp + 1 ∨ q = sp + 2 ∨ kr_fr h hc q)) hlc0 (fun q z => Or.inr (Or.inr (Or.inr (by rcases hL1 q z with z | z | z | z | z | z <;> (rw [z]; unfold kr_fr; omega)))))
  have k1 : ∀ q, ¬ kr_fr h hc q → w1 q = v q := fun q hq => by
    have hq1 := hq
    unfold kr_fr at hq1
    exact o1 q (by omega) (by omega) (by omega) (by omega) (by omega) (by omega)
  refine lv_if_ne hx hb d_Cu_finish_15 rfl (fun hc0 => ?_) (fun hc0 => ?_)
  · have hz : ¬ v (hc + 3) = 0 := by
      have q := kq_z_ne.mp hc0
      rw [hzm] at q
      exact q
    rw [if_neg hz] at f1
    obtain ⟨q0, rfl⟩ := kc_rep_nz hrep hz
    have x1 : w1 (hc + 1) = v (hc + 1) := o1 _ (by omega) (by omega) (by omega) (by omega) (by omega) (by omega)
    have x2 : w1 (hc + 2) = v (hc + 2) := o1 _ (by omega) (by omega) (by omega) (by omega) (by omega) (by omega)
    have hOc1 := kr_obj hW1 hV.1 hV.2.1
    have hOp1 := kr_obj hW1 hP.1 hP.2.1
    refine lv_aload_n hx hb d_Cu_finish_24 rfl (lv_at hl 0 rfl) ?_
    refine kq_get hx hb hts kt_F_Cu hown hK hOc1 rfl 0 (by decide) kt_w99 rfl d_Cu_finish_25 ?_
    refine lv_aload_n hx hb d_Cu_finish_28 rfl (lv_at hl 0 rfl) ?_
    refine kq_get hx hb hts kt_F_Cu hown hK hOc1 rfl 6 (by decide) kt_w105 rfl d_Cu_finish_29 ?_
    refine lv_aload_n hx hb d_Cu_finish_32 rfl (lv_at hl 0 rfl) ?_
    refine kq_get hx hb hts kt_F_Cu hown hK hOc1 rfl 4 (by decide) kt_w103 rfl d_Cu_finish_33 ?_
    refine lv_aload_n hx hb d_Cu_finish_36 rfl (lv_at hl 0 rfl) ?_
    refine kq_get hx hb hts kt_F_Cu hown hK hOc1 rfl 4 (by decide) kt_w103 rfl d_Cu_finish_37 ?_
    refine kq_call (va_runV (As := [.ref (hc + 6), .ref (hc + 4), .ref (hc + 4)]) (rest := []) ⟨hx, hb, hml, hown, hts⟩ (c_Pr_product l E h pa ga gw kP G w1 H1 hE hP hW1 (hc + 6) (hc + 4) (hc + 4) (hV.2.2.1 6 (by decide) (by decide)) (Or.inl (hV.2.2.1 4 (by decide) (by decide))) (Or.inl (hV.2.2.1 4 (by decide) (by decide)))) (cwV 3 hts (kt_inV kt_w206 kt_w260 kt_w204 kt_w205 kt_w3) rfl rfl rfl (by decide +kernel) ⟨Nat.le_of_ble_eq_true rfl, Nat.le_of_ble_eq_true rfl⟩) (kq_preV (kr_st E) (hC.1) (kq_recv hC.1.1 hOp1 rfl)) rfl rfl hl.1 rfl (lv_room (Nat.le_of_ble_eq_true rfl)) d_Cu_finish_40 ⟨Nat.zero_le _, Nat.zero_le _⟩) (fun u2 H2 L2 hq2 hL2 => ?_)
    obtain ⟨rfl, w2, hW2, f2, o2⟩ := hq2
    refine W.eq (g2 := F0 m 43 ls []) rfl ?_
    have hlc2 := t_lL (free := (fun q => q = sp ∨ q = sp + 1 ∨ q = sp + 2 ∨ kr_fr h hc q)) hlc1 (fun q z => Or.inr (Or.inr (Or.inr (by rcases hL2 q z with z | z | z <;> (rw [z]; unfold kr_fr; omega)))))
    have e2 : w2 (hc + 6) = w1 (hc + 4) * w1 (hc + 4) % kP := by rw [f2]
    have hOc2 := kr_obj hW2 hV.1 hV.2.1
    have hOp2 := kr_obj hW2 hP.1 hP.2.1
    refine lv_aload_n hx hb d_Cu_finish_43 rfl (lv_at hl 0 rfl) ?_
    refine kq_get hx hb hts kt_F_Cu hown hK hOc2 rfl 0 (by decide) kt_w99 rfl d_Cu_finish_44 ?_
    refine lv_aload_n hx hb d_Cu_finish_47 rfl (lv_at hl 0 rfl) ?_
    refine kq_get hx hb hts kt_F_Cu hown hK hOc2 rfl 7 (by decide) kt_w106 rfl d_Cu_finish_48 ?_
    refine lv_aload_n hx hb d_Cu_finish_51 rfl (lv_at hl 0 rfl) ?_
    refine kq_get hx hb hts kt_F_Cu hown hK hOc2 rfl 6 (by decide) kt_w105 rfl d_Cu_finish_52 ?_
    refine lv_aload_n hx hb d_Cu_finish_55 rfl (lv_at hl 0 rfl) ?_
    refine kq_get hx hb hts kt_F_Cu hown hK hOc2 rfl 4 (by decide) kt_w103 rfl d_Cu_finish_56 ?_
    refine kq_call (va_runV (As := [.ref (hc + 7), .ref (hc + 6), .ref (hc + 4)]) (rest := []) ⟨hx, hb, hml, hown, hts⟩ (c_Pr_product l E h pa ga gw kP G w2 H2 hE hP hW2 (hc + 7) (hc + 6) (hc + 4) (hV.2.2.1 7 (by decide) (by decide)) (Or.inl (hV.2.2.1 6 (by decide) (by decide))) (Or.inl (hV.2.2.1 4 (by decide) (by decide)))) (cwV 3 hts (kt_inV kt_w206 kt_w260 kt_w204 kt_w205 kt_w3) rfl rfl rfl (by decide +kernel) ⟨Nat.le_of_ble_eq_true rfl, Nat.le_of_ble_eq_true rfl⟩) (kq_preV (kr_st E) (hC.1) (kq_recv hC.1.1 hOp2 rfl)) rfl rfl hl.1 rfl (lv_room (Nat.le_of_ble_eq_true rfl)) d_Cu_finish_59 ⟨Nat.zero_le _, Nat.zero_le _⟩) (fun u3 H3 L3 hq3 hL3 => ?_)
    obtain ⟨rfl, w3, hW3, f3, o3⟩ := hq3
    refine W.eq (g2 := F0 m 62 ls []) rfl ?_
    have hlc3 := t_lL (free := (fun q => q = sp ∨ q = sp + 1 ∨ q = sp + 2 ∨ kr_fr h hc q)) hlc2 (fun q z => Or.inr (Or.inr (Or.inr (by rcases hL3 q z with z | z | z <;> (rw [z]; unfold kr_fr; omega)))))
    have e3 : w3 (hc + 7) = w2 (hc + 6) * w1 (hc + 4) % kP := by rw [f3, o2 (hc + 4) (by omega) (by omega) (by omega)]
    have hOc3 := kr_obj hW3 hV.1 hV.2.1
    have hOp3 := kr_obj hW3 hP.1 hP.2.1
    refine lv_aload_n hx hb d_Cu_finish_62 rfl (lv_at hl 0 rfl) ?_
    refine kq_get hx hb hts kt_F_Cu hown hK hOc3 rfl 0 (by decide) kt_w99 rfl d_Cu_finish_63 ?_
    refine lv_aload_n hx hb d_Cu_finish_66 rfl (lv_at hl 0 rfl) ?_
    refine kq_get hx hb hts kt_F_Cu hown hK hOc3 rfl 1 (by decide) kt_w100 rfl d_Cu_finish_67 ?_
    refine lv_aload_n hx hb d_Cu_finish_70 rfl (lv_at hl 0 rfl) ?_
    refine kq_get hx hb hts kt_F_Cu hown hK hOc3 rfl 1 (by decide) kt_w100 rfl d_Cu_finish_71 ?_
    refine lv_aload_n hx hb d_Cu_finish_74 rfl (lv_at hl 0 rfl) ?_
    refine kq_get hx hb hts kt_F_Cu hown hK hOc3 rfl 6 (by decide) kt_w105 rfl d_Cu_finish_75 ?_
    refine kq_call (va_runV (As := [.ref (hc + 1), .ref (hc + 1), .ref (hc + 6)]) (rest := []) ⟨hx, hb, hml, hown, hts⟩ (c_Pr_product l E h pa ga gw kP G w3 H3 hE hP hW3 (hc + 1) (hc + 1) (hc + 6) (hV.2.2.1 1 (by decide) (by decide)) (Or.inl (hV.2.2.1 1 (by decide) (by decide))) (Or.inl (hV.2.2.1 6 (by decide) (by decide)))) (cwV 3 hts (kt_inV kt_w206 kt_w260 kt_w204 kt_w205 kt_w3) rfl rfl rfl (by decide +kernel) ⟨Nat.le_of_ble_eq_true rfl, Nat.le_of_ble_eq_true rfl⟩) (kq_preV (kr_st E) (hC.1) (kq_recv hC.1.1 hOp3 rfl)) rfl rfl hl.1 rfl (lv_room (Nat.le_of_ble_eq_true rfl)) d_Cu_finish_78 ⟨Nat.zero_le _, Nat.zero_le _⟩) (fun u4 H4 L4 hq4 hL4 => ?_)
    obtain ⟨rfl, w4, hW4, f4, o4⟩ := hq4
    refine W.eq (g2 := F0 m 81 ls []) rfl ?_
    have hlc4 := t_lL (free := (fun q => q = sp ∨ q = sp + 1 ∨ q = sp + 2 ∨ kr_fr h hc q)) hlc3 (fun q z => Or.inr (Or.inr (Or.inr (by rcases hL4 q z with z | z | z <;> (rw [z]; unfold kr_fr; omega)))))
    have e4 : w4 (hc + 1) = w1 (hc + 1) * w2 (hc + 6) % kP := by rw [f4, o3 (hc + 1) (by omega) (by omega) (by omega), o2 (hc + 1) (by omega) (by omega) (by omega), o3 (hc + 6) (by omega) (by omega) (by omega)]
    have hOc4 := kr_obj hW4 hV.1 hV.2.1
    have hOp4 := kr_obj hW4 hP.1 hP.2.1
    refine lv_aload_n hx hb d_Cu_finish_81 rfl (lv_at hl 0 rfl) ?_
    refine kq_get hx hb hts kt_F_Cu hown hK hOc4 rfl 0 (by decide) kt_w99 rfl d_Cu_finish_82 ?_
    refine lv_aload_n hx hb d_Cu_finish_85 rfl (lv_at hl 0 rfl) ?_
    refine kq_get hx hb hts kt_F_Cu hown hK hOc4 rfl 2 (by decide) kt_w101 rfl d_Cu_finish_86 ?_
    refine lv_aload_n hx hb d_Cu_finish_89 rfl (lv_at hl 0 rfl) ?_
    refine kq_get hx hb hts kt_F_Cu hown hK hOc4 rfl 2 (by decide) kt_w101 rfl d_Cu_finish_90 ?_
    refine lv_aload_n hx hb d_Cu_finish_93 rfl (lv_at hl 0 rfl) ?_
    refine kq_get hx hb hts kt_F_Cu hown hK hOc4 rfl 7 (by decide) kt_w106 rfl d_Cu_finish_94 ?_
    refine kq_call (va_runV (As := [.ref (hc + 2), .ref (hc + 2), .ref (hc + 7)]) (rest := []) ⟨hx, hb, hml, hown, hts⟩ (c_Pr_product l E h pa ga gw kP G w4 H4 hE hP hW4 (hc + 2) (hc + 2) (hc + 7) (hV.2.2.1 2 (by decide) (by decide)) (Or.inl (hV.2.2.1 2 (by decide) (by decide))) (Or.inl (hV.2.2.1 7 (by decide) (by decide)))) (cwV 3 hts (kt_inV kt_w206 kt_w260 kt_w204 kt_w205 kt_w3) rfl rfl rfl (by decide +kernel) ⟨Nat.le_of_ble_eq_true rfl, Nat.le_of_ble_eq_true rfl⟩) (kq_preV (kr_st E) (hC.1) (kq_recv hC.1.1 hOp4 rfl)) rfl rfl hl.1 rfl (lv_room (Nat.le_of_ble_eq_true rfl)) d_Cu_finish_97 ⟨Nat.zero_le _, Nat.zero_le _⟩) (fun u5 H5 L5 hq5 hL5 => ?_)
    obtain ⟨rfl, w5, hW5, f5, o5⟩ := hq5
    refine W.eq (g2 := F0 m 100 ls []) rfl ?_
    have hlc5 := t_lL (free := (fun q => q = sp ∨ q = sp + 1 ∨ q = sp + 2 ∨ kr_fr h hc q)) hlc4 (fun q z => Or.inr (Or.inr (Or.inr (by rcases hL5 q z with z | z | z <;> (rw [z]; unfold kr_fr; omega)))))
    have e5 : w5 (hc + 2) = w1 (hc + 2) * w3 (hc + 7) % kP := by rw [f5, o4 (hc + 2) (by omega) (by omega) (by omega), o3 (hc + 2) (by omega) (by omega) (by omega), o2 (hc + 2) (by omega) (by omega) (by omega), o4 (hc + 7) (by omega) (by omega) (by omega)]
    have hOc5 := kr_obj hW5 hV.1 hV.2.1
    have hOp5 := kr_obj hW5 hP.1 hP.2.1
    rw [x1] at e4
    rw [x2] at e5
    have hend := kc_rep_end hrep f1 e2 e3 e4 e5
    have hOs := kr_obj hW5 hS.1 hS.2.1
    refine lv_aload_n hx hb d_Cu_finish_100 rfl (lv_at hl 1 rfl) ?_
    refine lv_aload_n hx hb d_Cu_finish_101 rfl (lv_at hl 0 rfl) ?_
    refine kq_get hx hb hts kt_F_Cu hown hK hOc5 rfl 1 (by decide) kt_w100 rfl d_Cu_finish_102 ?_
    refine lv_aload_n hx hb d_Cu_finish_105 rfl (lv_at hl 0 rfl) ?_
    refine kq_get hx hb hts kt_F_Cu hown hK hOc5 rfl 2 (by decide) kt_w101 rfl d_Cu_finish_106 ?_
    refine kq_call (va_runV (As := [.ref (hc + 1), .ref (hc + 2)]) (rest := []) ⟨hx, hb, hml, hown, hts⟩ (c_Sp_become l E w5 H5 hE hW5 sp b hS (hc + 1) (hc + 2) (Or.inl h1) (Or.inl h2) (by omega)) (cwV 2 hts (kt_inV kt_w284 kt_w315 kt_w282 kt_w283 kt_w2) rfl rfl rfl (by decide +kernel) ⟨Nat.le_of_ble_eq_true rfl, Nat.le_of_ble_eq_true rfl⟩) (kq_preV (kr_st E) (hB) (kq_recv hC.1.1 hOs rfl)) rfl rfl hl.1 rfl (lv_room (Nat.le_of_ble_eq_true rfl)) d_Cu_finish_109 ⟨Nat.zero_le _, Nat.zero_le _⟩) (fun u8 H8 L8 hq8 hL8 => ?_)
    obtain ⟨rfl, hX8⟩ := hq8
    refine W.eq (g2 := F0 m 112 ls []) rfl ?_
    refine W.vret hx hb hret (fun t ht _ => ⟨_, rfl, rfl, _, by rw [ht]; exact hX8, fun q1 hq => ?_, (fun q => by cases q), fun q q1 q2 q3 => ?_⟩) (t_lL (free := (fun q => q = sp ∨ q = sp + 1 ∨ q = sp + 2 ∨ kr_fr h hc q)) hlc5 (fun q z => by rcases hL8 q z with z | z | z <;> simp [z])) d_Cu_finish_112
    · cases hq
      rw [kq_up_ne (show sp + 1 ≠ sp + 2 by omega), kq_up_at, kq_up_at, o5 (hc + 1) (by omega) (by omega) (by omega)]
      exact hend
    · rw [kq_up_ne q2, kq_up_ne q1]
      have hq1 := q3
      unfold kr_fr at hq1
      rw [o5 q (by omega) (by omega) (by omega), o4 q (by omega) (by omega) (by omega), o3 q (by omega) (by omega) (by omega), o2 q (by omega) (by omega) (by omega)]
      exact k1 q q3
  · have hz : v (hc + 3) = 0 := by
      have q := Classical.not_not.mp (kq_z_eq.mp hc0)
      rw [hzm] at q
      exact q
    have ho := kc_rep_zero hrep hz
    subst ho
    have hOs := kr_obj hW1 hS.1 hS.2.1
    refine lv_aload_n hx hb d_Cu_finish_18 rfl (lv_at hl 1 rfl) ?_
    refine lv_iconst (v := nI 1) hx hb d_Cu_finish_19 (by decide) ?_
    refine kq_put hx hb hts kt_F_Sp t_Sp t_Sp_ok n_Sp hown hK hOs rfl 2 (by decide) kt_w33 rfl (ty := .boolean) (by decide +kernel) rfl rfl (Nat.le_of_ble_eq_true rfl) d_Cu_finish_20 (fun H3 L3 hP3 hz3 ho3 hL3 => ?_)
    have hP3 : va_P (kr_D E) kr_cl [(sp, .inr (2, [.ref (sp + 1), .ref (sp + 2), .int (kq_z true)]))] H3 := hP3
    exact W.vret hx hb hret (fun t ht _ => ⟨_, rfl, rfl, w1, ⟨H1, hW1, by rw [ht]; exact hz3, fun q hq => by rw [ht]; exact ho3 q hq, by rw [ht]; exact hP3⟩, (fun q hq => by cases hq), fun _ => ⟨k1 _ (by unfold kr_fr; omega), k1 _ (by unfold kr_fr; omega)⟩, fun q _ _ q3 => k1 q q3⟩) (t_lL (free := (fun q => q = sp ∨ q = sp + 1 ∨ q = sp + 2 ∨ kr_fr h hc q)) hlc1 (fun q z => Or.inl (hL3 q z))) d_Cu_finish_23
