/-! KeyCurve$Curve: measureLine, followLine, join, startMultiple (own rows). -/
/-- a Spot's object at sp: its rows behind it, and its flag -/
def kr_Sp (E : kr_E) (sp : Nat) (b : Bool) : Prop := va_P (kr_D E) kr_cl [(sp, .inr (2, [.ref (sp + 1), .ref (sp + 2), .int (kq_z b)]))] (kr_H E) ∧ ¬ kr_L E sp ∧ kr_out E (sp + 1) ∧ kr_out E (sp + 2)
theorem kc_rep_one {bx by1 : Nat} (hx : bx < kP) (hy : by1 < kP) : kc_rep (some (bx, by1)) bx by1 1 := by
  refine ⟨by decide +kernel, hx, hy, by decide, ?_, ?_⟩
  · show kj_f bx = kj_f bx * (kj_f 1 * kj_f 1)
    simp only [← kj_f_mul, Nat.mul_one]
  · show kj_f by1 = kj_f by1 * (kj_f 1 * kj_f 1 * kj_f 1)
    simp only [← kj_f_mul, Nat.mul_one]
theorem kc_rep_zero {o : Option (Nat × Nat)} {X Y Z : Nat} (h : kc_rep o X Y Z) (hz : Z = 0) : o = none := by
  cases o with
  | none => rfl
  | some q => exact absurd hz h.2.2.2.1
theorem kc_rep_nz {o : Option (Nat × Nat)} {X Y Z : Nat} (h : kc_rep o X Y Z) (hz : Z ≠ 0) : ∃ q, o = some q := by
  cases o with
  | none => exact absurd h.2 hz
  | some q => exact ⟨q, rfl⟩
theorem kc_rep_none (X Y : Nat) : kc_rep none X Y 0 := ⟨by decide +kernel, rfl⟩
theorem kq_z_b0 {b : Bool} (h : kq_z b = 0) : b = false := by
  cases b with
  | false => rfl
  | true => exact absurd h (by decide)
theorem kq_z_b1 {b : Bool} (h : ¬ kq_z b = 0) : b = true := by
  cases b with
  | false => exact absurd rfl h
  | true => rfl
theorem d_Cu_measureLine_0 : decode b_Cu_measureLine 0 = .ok (.aload_n 0, 1) := by decide +kernel
theorem d_Cu_measureLine_1 : decode b_Cu_measureLine 1 = .ok (.getfield 45, 3) := by decide +kernel
theorem d_Cu_measureLine_4 : decode b_Cu_measureLine 4 = .ok (.aload_n 0, 1) := by decide +kernel
theorem d_Cu_measureLine_5 : decode b_Cu_measureLine 5 = .ok (.getfield 27, 3) := by decide +kernel
theorem d_Cu_measureLine_8 : decode b_Cu_measureLine 8 = .ok (.aload_n 0, 1) := by decide +kernel
theorem d_Cu_measureLine_9 : decode b_Cu_measureLine 9 = .ok (.getfield 18, 3) := by decide +kernel
theorem d_Cu_measureLine_12 : decode b_Cu_measureLine 12 = .ok (.aload_n 0, 1) := by decide +kernel
theorem d_Cu_measureLine_13 : decode b_Cu_measureLine 13 = .ok (.getfield 18, 3) := by decide +kernel
theorem d_Cu_measureLine_16 : decode b_Cu_measureLine 16 = .ok (.invokevirtual 68, 3) := by decide +kernel
theorem d_Cu_measureLine_19 : decode b_Cu_measureLine 19 = .ok (.aload_n 0, 1) := by decide +kernel
theorem d_Cu_measureLine_20 : decode b_Cu_measureLine 20 = .ok (.getfield 45, 3) := by decide +kernel
theorem d_Cu_measureLine_23 : decode b_Cu_measureLine 23 = .ok (.aload_n 0, 1) := by decide +kernel
theorem d_Cu_measureLine_24 : decode b_Cu_measureLine 24 = .ok (.getfield 21, 3) := by decide +kernel
theorem d_Cu_measureLine_27 : decode b_Cu_measureLine 27 = .ok (.aload_n 1, 1) := by decide +kernel
theorem d_Cu_measureLine_28 : decode b_Cu_measureLine 28 = .ok (.getfield 129, 3) := by decide +kernel
theorem d_Cu_measureLine_31 : decode b_Cu_measureLine 31 = .ok (.aload_n 0, 1) := by decide +kernel
theorem d_Cu_measureLine_32 : decode b_Cu_measureLine 32 = .ok (.getfield 27, 3) := by decide +kernel
theorem d_Cu_measureLine_35 : decode b_Cu_measureLine 35 = .ok (.invokevirtual 68, 3) := by decide +kernel
theorem d_Cu_measureLine_38 : decode b_Cu_measureLine 38 = .ok (.aload_n 0, 1) := by decide +kernel
theorem d_Cu_measureLine_39 : decode b_Cu_measureLine 39 = .ok (.getfield 45, 3) := by decide +kernel
theorem d_Cu_measureLine_42 : decode b_Cu_measureLine 42 = .ok (.aload_n 0, 1) := by decide +kernel
theorem d_Cu_measureLine_43 : decode b_Cu_measureLine 43 = .ok (.getfield 21, 3) := by decide +kernel
theorem d_Cu_measureLine_46 : decode b_Cu_measureLine 46 = .ok (.aload_n 0, 1) := by decide +kernel
theorem d_Cu_measureLine_47 : decode b_Cu_measureLine 47 = .ok (.getfield 21, 3) := by decide +kernel
theorem d_Cu_measureLine_50 : decode b_Cu_measureLine 50 = .ok (.aload_n 0, 1) := by decide +kernel
theorem d_Cu_measureLine_51 : decode b_Cu_measureLine 51 = .ok (.getfield 9, 3) := by decide +kernel
theorem d_Cu_measureLine_54 : decode b_Cu_measureLine 54 = .ok (.invokevirtual 82, 3) := by decide +kernel
theorem d_Cu_measureLine_57 : decode b_Cu_measureLine 57 = .ok (.aload_n 0, 1) := by decide +kernel
theorem d_Cu_measureLine_58 : decode b_Cu_measureLine 58 = .ok (.getfield 45, 3) := by decide +kernel
theorem d_Cu_measureLine_61 : decode b_Cu_measureLine 61 = .ok (.aload_n 0, 1) := by decide +kernel
theorem d_Cu_measureLine_62 : decode b_Cu_measureLine 62 = .ok (.getfield 27, 3) := by decide +kernel
theorem d_Cu_measureLine_65 : decode b_Cu_measureLine 65 = .ok (.aload_n 0, 1) := by decide +kernel
theorem d_Cu_measureLine_66 : decode b_Cu_measureLine 66 = .ok (.getfield 27, 3) := by decide +kernel
theorem d_Cu_measureLine_69 : decode b_Cu_measureLine 69 = .ok (.aload_n 0, 1) := by decide +kernel
theorem d_Cu_measureLine_70 : decode b_Cu_measureLine 70 = .ok (.getfield 18, 3) := by decide +kernel
theorem d_Cu_measureLine_73 : decode b_Cu_measureLine 73 = .ok (.invokevirtual 68, 3) := by decide +kernel
theorem d_Cu_measureLine_76 : decode b_Cu_measureLine 76 = .ok (.aload_n 0, 1) := by decide +kernel
theorem d_Cu_measureLine_77 : decode b_Cu_measureLine 77 = .ok (.getfield 45, 3) := by decide +kernel
theorem d_Cu_measureLine_80 : decode b_Cu_measureLine 80 = .ok (.aload_n 0, 1) := by decide +kernel
theorem d_Cu_measureLine_81 : decode b_Cu_measureLine 81 = .ok (.getfield 24, 3) := by decide +kernel
theorem d_Cu_measureLine_84 : decode b_Cu_measureLine 84 = .ok (.aload_n 1, 1) := by decide +kernel
theorem d_Cu_measureLine_85 : decode b_Cu_measureLine 85 = .ok (.getfield 130, 3) := by decide +kernel
theorem d_Cu_measureLine_88 : decode b_Cu_measureLine 88 = .ok (.aload_n 0, 1) := by decide +kernel
theorem d_Cu_measureLine_89 : decode b_Cu_measureLine 89 = .ok (.getfield 27, 3) := by decide +kernel
theorem d_Cu_measureLine_92 : decode b_Cu_measureLine 92 = .ok (.invokevirtual 68, 3) := by decide +kernel
theorem d_Cu_measureLine_95 : decode b_Cu_measureLine 95 = .ok (.aload_n 0, 1) := by decide +kernel
theorem d_Cu_measureLine_96 : decode b_Cu_measureLine 96 = .ok (.getfield 45, 3) := by decide +kernel
theorem d_Cu_measureLine_99 : decode b_Cu_measureLine 99 = .ok (.aload_n 0, 1) := by decide +kernel
theorem d_Cu_measureLine_100 : decode b_Cu_measureLine 100 = .ok (.getfield 24, 3) := by decide +kernel
theorem d_Cu_measureLine_103 : decode b_Cu_measureLine 103 = .ok (.aload_n 0, 1) := by decide +kernel
theorem d_Cu_measureLine_104 : decode b_Cu_measureLine 104 = .ok (.getfield 24, 3) := by decide +kernel
theorem d_Cu_measureLine_107 : decode b_Cu_measureLine 107 = .ok (.aload_n 0, 1) := by decide +kernel
theorem d_Cu_measureLine_108 : decode b_Cu_measureLine 108 = .ok (.getfield 15, 3) := by decide +kernel
theorem d_Cu_measureLine_111 : decode b_Cu_measureLine 111 = .ok (.invokevirtual 82, 3) := by decide +kernel
theorem d_Cu_measureLine_114 : decode b_Cu_measureLine 114 = .ok (.return_, 1) := by decide +kernel
set_option maxHeartbeats 4000000 in
set_option maxRecDepth 100000 in
theorem c_Cu_measureLine (l : Launch) (E : kr_E) (A : Nat → Nat) (h pa ga gw G hc sp : Nat) (v : Nat → Nat) (H : Heap) (hE : kr_ok E) (hA : kr_A E A) (hP : kr_P E h pa ga gw kP G) (hV : kr_V E hc h) (hW : kr_W E v H) (b : Bool) (hS : kr_Sp E sp b) (hsp : sp + 2 < h) (q0 : Nat × Nat) (hrep : kc_rep (some q0) (v (hc + 1)) (v (hc + 2)) (v (hc + 3))) (hbx : v (sp + 1) < kP) (hby : v (sp + 2) < kP) : Met l y_Cu_measureLine w_Cu_measureLine ({ frames := 3, cells := 0, slots := 0, locals := 75 }) (kq_P [.ref hc, .ref sp] H (kr_C E A)) (kq_Q (fun o1 H1 => o1 = none ∧ ∃ w : Nat → Nat, kr_W E w H1 ∧ (w (hc + 1) = v (hc + 1) ∧ w (hc + 2) = v (hc + 2) ∧ w (hc + 3) = v (hc + 3)) ∧ (kj_f (w (hc + 4)) = kj_f (v (sp + 1)) * (kj_f (v (hc + 3)) * kj_f (v (hc + 3))) - kj_f (v (hc + 1)) ∧ kj_f (w (hc + 5)) = kj_f (v (sp + 2)) * (kj_f (v (hc + 3)) * kj_f (v (hc + 3)) * kj_f (v (hc + 3))) - kj_f (v (hc + 2))) ∧ (w (hc + 4) = 0 ↔ q0.1 = v (sp + 1)) ∧ (w (hc + 5) = 0 ↔ q0.2 = v (sp + 2)) ∧ w (hc + 4) < kP ∧ ∀ q, ¬ kr_fr h hc q → w q = v q)) 0 0 (kr_fr h hc) := by
  refine Met.ofW (cc := b_Cu_measureLine) (maxL := 2) (ret := none) (by decide) rfl ?_
  intro p e s m args below meth c s₁ B0 hml hv
  obtain ⟨rfl, hH, hC⟩ := hv
  have hx := B0.exec
  have hb := B0.bytes
  have hret := B0.returns
  have hts := atoms_spec (ws := w_Cu_measureLine) B0.pre
  have hown : s.vm.findClass R_Cu = some m.cls := findClass_of_methodNamed B0.named
  have hlocks := B0.notSynchronized
  rw [hH]
  have hl := lv_entry ([.ref hc, .ref sp]) (n := 2) (Nat.le_of_ble_eq_true rfl)
  rw [lg_entry_eq]
  generalize (lg_sl ([.ref hc, .ref sp]) ++ List.replicate (2 - (lg_sl ([.ref hc, .ref sp])).length) Slot.unset).toArray = ls at hl ⊢
  have hl : lv_has ls 2 [(0, .ref hc), (1, .ref sp)] := hl
  have hB := hC.1
  have hT := kr_T hE hB
  have hK := hB.1
  have hhc := hV.2.2.2
  have hlc0 : ∀ q ∈ ([] : List Loc), kr_fr h hc q.base := fun q h => by cases h
  have hOc0 := kr_obj hW hV.1 hV.2.1
  have hOp0 := kr_obj hW hP.1 hP.2.1
  have hOs0 := kr_obj hW hS.1 hS.2.1
  refine lv_aload_n hx hb d_Cu_measureLine_0 rfl (lv_at hl 0 rfl) ?_
  refine kq_get hx hb hts kt_F_Cu hown hK hOc0 rfl 0 (by decide) kt_w99 rfl d_Cu_measureLine_1 ?_
  refine lv_aload_n hx hb d_Cu_measureLine_4 rfl (lv_at hl 0 rfl) ?_
  refine kq_get hx hb hts kt_F_Cu hown hK hOc0 rfl 6 (by decide) kt_w105 rfl d_Cu_measureLine_5 ?_
  refine lv_aload_n hx hb d_Cu_measureLine_8 rfl (lv_at hl 0 rfl) ?_
  refine kq_get hx hb hts kt_F_Cu hown hK hOc0 rfl 3 (by decide) kt_w102 rfl d_Cu_measureLine_9 ?_
  refine lv_aload_n hx hb d_Cu_measureLine_12 rfl (lv_at hl 0 rfl) ?_
  refine kq_get hx hb hts kt_F_Cu hown hK hOc0 rfl 3 (by decide) kt_w102 rfl d_Cu_measureLine_13 ?_
  refine kq_call (va_runV (As := [.ref (hc + 6), .ref (hc + 3), .ref (hc + 3)]) (rest := []) ⟨hx, hb, hml, hown, hts⟩ (c_Pr_product l E h pa ga gw kP G v H hE hP hW (hc + 6) (hc + 3) (hc + 3) (hV.2.2.1 6 (by decide) (by decide)) (Or.inl (hV.2.2.1 3 (by decide) (by decide))) (Or.inl (hV.2.2.1 3 (by decide) (by decide)))) (cwV 3 hts (kt_inV kt_w206 kt_w260 kt_w204 kt_w205 kt_w3) rfl rfl rfl (by decide +kernel) ⟨Nat.le_of_ble_eq_true rfl, Nat.le_of_ble_eq_true rfl⟩) (kq_preV (kr_st E) (hC.1) (kq_recv hC.1.1 hOp0 rfl)) rfl rfl hl.1 rfl (lv_room (Nat.le_of_ble_eq_true rfl)) d_Cu_measureLine_16 ⟨Nat.zero_le _, Nat.zero_le _⟩) (fun u1 H1 L1 hq1 hL1 => ?_)
  obtain ⟨rfl, w1, hW1, f1, o1⟩ := hq1
  refine W.eq (g2 := F0 m 19 ls []) rfl ?_
  have hlc1 := t_lL (free := kr_fr h hc) hlc0 (fun q z => by rcases hL1 q z with z | z | z <;> (rw [z]; unfold kr_fr; omega))
  have e1 : w1 (hc + 6) = v (hc + 3) * v (hc + 3) % kP := by rw [f1]
  have hOc1 := kr_obj hW1 hV.1 hV.2.1
  have hOp1 := kr_obj hW1 hP.1 hP.2.1
  have hOs1 := kr_obj hW1 hS.1 hS.2.1
  refine lv_aload_n hx hb d_Cu_measureLine_19 rfl (lv_at hl 0 rfl) ?_
  refine kq_get hx hb hts kt_F_Cu hown hK hOc1 rfl 0 (by decide) kt_w99 rfl d_Cu_measureLine_20 ?_
  refine lv_aload_n hx hb d_Cu_measureLine_23 rfl (lv_at hl 0 rfl) ?_
  refine kq_get hx hb hts kt_F_Cu hown hK hOc1 rfl 4 (by decide) kt_w103 rfl d_Cu_measureLine_24 ?_
  refine lv_aload_n hx hb d_Cu_measureLine_27 rfl (lv_at hl 1 rfl) ?_
  refine kq_get hx hb hts kt_F_Sp hown hK hOs1 rfl 0 (by decide) kt_w27 rfl d_Cu_measureLine_28 ?_
  refine lv_aload_n hx hb d_Cu_measureLine_31 rfl (lv_at hl 0 rfl) ?_
  refine kq_get hx hb hts kt_F_Cu hown hK hOc1 rfl 6 (by decide) kt_w105 rfl d_Cu_measureLine_32 ?_
  refine kq_call (va_runV (As := [.ref (hc + 4), .ref (sp + 1), .ref (hc + 6)]) (rest := []) ⟨hx, hb, hml, hown, hts⟩ (c_Pr_product l E h pa ga gw kP G w1 H1 hE hP hW1 (hc + 4) (sp + 1) (hc + 6) (hV.2.2.1 4 (by decide) (by decide)) (Or.inl hS.2.2.1) (Or.inl (hV.2.2.1 6 (by decide) (by decide)))) (cwV 3 hts (kt_inV kt_w206 kt_w260 kt_w204 kt_w205 kt_w3) rfl rfl rfl (by decide +kernel) ⟨Nat.le_of_ble_eq_true rfl, Nat.le_of_ble_eq_true rfl⟩) (kq_preV (kr_st E) (hC.1) (kq_recv hC.1.1 hOp1 rfl)) rfl rfl hl.1 rfl (lv_room (Nat.le_of_ble_eq_true rfl)) d_Cu_measureLine_35 ⟨Nat.zero_le _, Nat.zero_le _⟩) (fun u2 H2 L2 hq2 hL2 => ?_)
  obtain ⟨rfl, w2, hW2, f2, o2⟩ := hq2
  refine W.eq (g2 := F0 m 38 ls []) rfl ?_
  have hlc2 := t_lL (free := kr_fr h hc) hlc1 (fun q z => by rcases hL2 q z with z | z | z <;> (rw [z]; unfold kr_fr; omega))
  have e2 : w2 (hc + 4) = v (sp + 1) * w1 (hc + 6) % kP := by rw [f2, o1 (sp + 1) (by omega) (by omega) (by omega)]
  have hOc2 := kr_obj hW2 hV.1 hV.2.1
  have hOp2 := kr_obj hW2 hP.1 hP.2.1
  have hOs2 := kr_obj hW2 hS.1 hS.2.1
  refine lv_aload_n hx hb d_Cu_measureLine_38 rfl (lv_at hl 0 rfl) ?_
  refine kq_get hx hb hts kt_F_Cu hown hK hOc2 rfl 0 (by decide) kt_w99 rfl d_Cu_measureLine_39 ?_
  refine lv_aload_n hx hb d_Cu_measureLine_42 rfl (lv_at hl 0 rfl) ?_
  refine kq_get hx hb hts kt_F_Cu hown hK hOc2 rfl 4 (by decide) kt_w103 rfl d_Cu_measureLine_43 ?_
  refine lv_aload_n hx hb d_Cu_measureLine_46 rfl (lv_at hl 0 rfl) ?_
  refine kq_get hx hb hts kt_F_Cu hown hK hOc2 rfl 4 (by decide) kt_w103 rfl d_Cu_measureLine_47 ?_
  refine lv_aload_n hx hb d_Cu_measureLine_50 rfl (lv_at hl 0 rfl) ?_
  refine kq_get hx hb hts kt_F_Cu hown hK hOc2 rfl 1 (by decide) kt_w100 rfl d_Cu_measureLine_51 ?_
  refine kq_call (va_runV (As := [.ref (hc + 4), .ref (hc + 4), .ref (hc + 1)]) (rest := []) ⟨hx, hb, hml, hown, hts⟩ (c_Pr_difference l E h pa ga gw kP G w2 H2 hE hP hW2 (hc + 4) (hc + 4) (hc + 1) (hV.2.2.1 4 (by decide) (by decide)) (Or.inl (hV.2.2.1 4 (by decide) (by decide))) (Or.inl (hV.2.2.1 1 (by decide) (by decide)))) (cwV 3 hts (kt_inV kt_w198 kt_w268 kt_w196 kt_w197 kt_w3) rfl rfl rfl (by decide +kernel) ⟨Nat.le_of_ble_eq_true rfl, Nat.le_of_ble_eq_true rfl⟩) (kq_preV (kr_st E) (hC.1) (kq_recv hC.1.1 hOp2 rfl)) rfl rfl hl.1 rfl (lv_room (Nat.le_of_ble_eq_true rfl)) d_Cu_measureLine_54 ⟨Nat.zero_le _, Nat.zero_le _⟩) (fun u3 H3 L3 hq3 hL3 => ?_)
  obtain ⟨rfl, hX3⟩ := hq3
  refine W.eq (g2 := F0 m 57 ls []) rfl ?_
  obtain ⟨w3, f3, o3, hW3⟩ : ∃ w : Nat → Nat, w (hc + 4) = kp_dif kP (w2 (hc + 4)) (w2 (hc + 1)) ∧ (∀ q, q ≠ hc + 4 → w q = w2 q) ∧ kr_W E w H3 := ⟨_, kq_up_at, fun q hq => kq_up_ne hq, hX3⟩
  have hlc3 := t_lL (free := kr_fr h hc) hlc2 (fun q z => by rw [hL3 q z]; unfold kr_fr; omega)
  have e3 : w3 (hc + 4) = kp_dif kP (w2 (hc + 4)) (v (hc + 1)) := by rw [f3, o2 (hc + 1) (by omega) (by omega) (by omega), o1 (hc + 1) (by omega) (by omega) (by omega)]
  have hOc3 := kr_obj hW3 hV.1 hV.2.1
  have hOp3 := kr_obj hW3 hP.1 hP.2.1
  have hOs3 := kr_obj hW3 hS.1 hS.2.1
  refine lv_aload_n hx hb d_Cu_measureLine_57 rfl (lv_at hl 0 rfl) ?_
  refine kq_get hx hb hts kt_F_Cu hown hK hOc3 rfl 0 (by decide) kt_w99 rfl d_Cu_measureLine_58 ?_
  refine lv_aload_n hx hb d_Cu_measureLine_61 rfl (lv_at hl 0 rfl) ?_
  refine kq_get hx hb hts kt_F_Cu hown hK hOc3 rfl 6 (by decide) kt_w105 rfl d_Cu_measureLine_62 ?_
  refine lv_aload_n hx hb d_Cu_measureLine_65 rfl (lv_at hl 0 rfl) ?_
  refine kq_get hx hb hts kt_F_Cu hown hK hOc3 rfl 6 (by decide) kt_w105 rfl d_Cu_measureLine_66 ?_
  refine lv_aload_n hx hb d_Cu_measureLine_69 rfl (lv_at hl 0 rfl) ?_
  refine kq_get hx hb hts kt_F_Cu hown hK hOc3 rfl 3 (by decide) kt_w102 rfl d_Cu_measureLine_70 ?_
  refine kq_call (va_runV (As := [.ref (hc + 6), .ref (hc + 6), .ref (hc + 3)]) (rest := []) ⟨hx, hb, hml, hown, hts⟩ (c_Pr_product l E h pa ga gw kP G w3 H3 hE hP hW3 (hc + 6) (hc + 6) (hc + 3) (hV.2.2.1 6 (by decide) (by decide)) (Or.inl (hV.2.2.1 6 (by decide) (by decide))) (Or.inl (hV.2.2.1 3 (by decide) (by decide)))) (cwV 3 hts (kt_inV kt_w206 kt_w260 kt_w204 kt_w205 kt_w3) rfl rfl rfl (by decide +kernel) ⟨Nat.le_of_ble_eq_true rfl, Nat.le_of_ble_eq_true rfl⟩) (kq_preV (kr_st E) (hC.1) (kq_recv hC.1.1 hOp3 rfl)) rfl rfl hl.1 rfl (lv_room (Nat.le_of_ble_eq_true rfl)) d_Cu_measureLine_73 ⟨Nat.zero_le _, Nat.zero_le _⟩) (fun u4 H4 L4 hq4 hL4 => ?_)
  obtain ⟨rfl, w4, hW4, f4, o4⟩ := hq4
  refine W.eq (g2 := F0 m 76 ls []) rfl ?_
  have hlc4 := t_lL (free := kr_fr h hc) hlc3 (fun q z => by rcases hL4 q z with z | z | z <;> (rw [z]; unfold kr_fr; omega))
  have e4 : w4 (hc + 6) = w1 (hc + 6) * v (hc + 3) % kP := by rw [f4, o3 (hc + 6) (by omega), o2 (hc + 6) (by omega) (by omega) (by omega), o3 (hc + 3) (by omega), o2 (hc + 3) (by omega) (by omega) (by omega), o1 (hc + 3) (by omega) (by omega) (by omega)]
  have hOc4 := kr_obj hW4 hV.1 hV.2.1
  have hOp4 := kr_obj hW4 hP.1 hP.2.1
  have hOs4 := kr_obj hW4 hS.1 hS.2.1
  refine lv_aload_n hx hb d_Cu_measureLine_76 rfl (lv_at hl 0 rfl) ?_
  refine kq_get hx hb hts kt_F_Cu hown hK hOc4 rfl 0 (by decide) kt_w99 rfl d_Cu_measureLine_77 ?_
  refine lv_aload_n hx hb d_Cu_measureLine_80 rfl (lv_at hl 0 rfl) ?_
  refine kq_get hx hb hts kt_F_Cu hown hK hOc4 rfl 5 (by decide) kt_w104 rfl d_Cu_measureLine_81 ?_
  refine lv_aload_n hx hb d_Cu_measureLine_84 rfl (lv_at hl 1 rfl) ?_
  refine kq_get hx hb hts kt_F_Sp hown hK hOs4 rfl 1 (by decide) kt_w30 rfl d_Cu_measureLine_85 ?_
  refine lv_aload_n hx hb d_Cu_measureLine_88 rfl (lv_at hl 0 rfl) ?_
  refine kq_get hx hb hts kt_F_Cu hown hK hOc4 rfl 6 (by decide) kt_w105 rfl d_Cu_measureLine_89 ?_
  refine kq_call (va_runV (As := [.ref (hc + 5), .ref (sp + 2), .ref (hc + 6)]) (rest := []) ⟨hx, hb, hml, hown, hts⟩ (c_Pr_product l E h pa ga gw kP G w4 H4 hE hP hW4 (hc + 5) (sp + 2) (hc + 6) (hV.2.2.1 5 (by decide) (by decide)) (Or.inl hS.2.2.2) (Or.inl (hV.2.2.1 6 (by decide) (by decide)))) (cwV 3 hts (kt_inV kt_w206 kt_w260 kt_w204 kt_w205 kt_w3) rfl rfl rfl (by decide +kernel) ⟨Nat.le_of_ble_eq_true rfl, Nat.le_of_ble_eq_true rfl⟩) (kq_preV (kr_st E) (hC.1) (kq_recv hC.1.1 hOp4 rfl)) rfl rfl hl.1 rfl (lv_room (Nat.le_of_ble_eq_true rfl)) d_Cu_measureLine_92 ⟨Nat.zero_le _, Nat.zero_le _⟩) (fun u5 H5 L5 hq5 hL5 => ?_)
  obtain ⟨rfl, w5, hW5, f5, o5⟩ := hq5
  refine W.eq (g2 := F0 m 95 ls []) rfl ?_
  have hlc5 := t_lL (free := kr_fr h hc) hlc4 (fun q z => by rcases hL5 q z with z | z | z <;> (rw [z]; unfold kr_fr; omega))
  have e5 : w5 (hc + 5) = v (sp + 2) * w4 (hc + 6) % kP := by rw [f5, o4 (sp + 2) (by omega) (by omega) (by omega), o3 (sp + 2) (by omega), o2 (sp + 2) (by omega) (by omega) (by omega), o1 (sp + 2) (by omega) (by omega) (by omega)]
  have hOc5 := kr_obj hW5 hV.1 hV.2.1
  have hOp5 := kr_obj hW5 hP.1 hP.2.1
  have hOs5 := kr_obj hW5 hS.1 hS.2.1
  refine lv_aload_n hx hb d_Cu_measureLine_95 rfl (lv_at hl 0 rfl) ?_
  refine kq_get hx hb hts kt_F_Cu hown hK hOc5 rfl 0 (by decide) kt_w99 rfl d_Cu_measureLine_96 ?_
  refine lv_aload_n hx hb d_Cu_measureLine_99 rfl (lv_at hl 0 rfl) ?_
  refine kq_get hx hb hts kt_F_Cu hown hK hOc5 rfl 5 (by decide) kt_w104 rfl d_Cu_measureLine_100 ?_
  refine lv_aload_n hx hb d_Cu_measureLine_103 rfl (lv_at hl 0 rfl) ?_
  refine kq_get hx hb hts kt_F_Cu hown hK hOc5 rfl 5 (by decide) kt_w104 rfl d_Cu_measureLine_104 ?_
  refine lv_aload_n hx hb d_Cu_measureLine_107 rfl (lv_at hl 0 rfl) ?_
  refine kq_get hx hb hts kt_F_Cu hown hK hOc5 rfl 2 (by decide) kt_w101 rfl d_Cu_measureLine_108 ?_
  refine kq_call (va_runV (As := [.ref (hc + 5), .ref (hc + 5), .ref (hc + 2)]) (rest := []) ⟨hx, hb, hml, hown, hts⟩ (c_Pr_difference l E h pa ga gw kP G w5 H5 hE hP hW5 (hc + 5) (hc + 5) (hc + 2) (hV.2.2.1 5 (by decide) (by decide)) (Or.inl (hV.2.2.1 5 (by decide) (by decide))) (Or.inl (hV.2.2.1 2 (by decide) (by decide)))) (cwV 3 hts (kt_inV kt_w198 kt_w268 kt_w196 kt_w197 kt_w3) rfl rfl rfl (by decide +kernel) ⟨Nat.le_of_ble_eq_true rfl, Nat.le_of_ble_eq_true rfl⟩) (kq_preV (kr_st E) (hC.1) (kq_recv hC.1.1 hOp5 rfl)) rfl rfl hl.1 rfl (lv_room (Nat.le_of_ble_eq_true rfl)) d_Cu_measureLine_111 ⟨Nat.zero_le _, Nat.zero_le _⟩) (fun u6 H6 L6 hq6 hL6 => ?_)
  obtain ⟨rfl, hX6⟩ := hq6
  refine W.eq (g2 := F0 m 114 ls []) rfl ?_
  obtain ⟨w6, f6, o6, hW6⟩ : ∃ w : Nat → Nat, w (hc + 5) = kp_dif kP (w5 (hc + 5)) (w5 (hc + 2)) ∧ (∀ q, q ≠ hc + 5 → w q = w5 q) ∧ kr_W E w H6 := ⟨_, kq_up_at, fun q hq => kq_up_ne hq, hX6⟩
  have hlc6 := t_lL (free := kr_fr h hc) hlc5 (fun q z => by rw [hL6 q z]; unfold kr_fr; omega)
  have e6 : w6 (hc + 5) = kp_dif kP (w5 (hc + 5)) (v (hc + 2)) := by rw [f6, o5 (hc + 2) (by omega) (by omega) (by omega), o4 (hc + 2) (by omega) (by omega) (by omega), o3 (hc + 2) (by omega), o2 (hc + 2) (by omega) (by omega) (by omega), o1 (hc + 2) (by omega) (by omega) (by omega)]
  have hOc6 := kr_obj hW6 hV.1 hV.2.1
  have hOp6 := kr_obj hW6 hP.1 hP.2.1
  have hOs6 := kr_obj hW6 hS.1 hS.2.1
  obtain ⟨hg, hz1, hz2⟩ := kc_measure hrep hbx hby e1 e2 e3 e4 e5 e6
  have r4 : w6 (hc + 4) = w3 (hc + 4) := by rw [o6 (hc + 4) (by omega), o5 (hc + 4) (by omega) (by omega) (by omega), o4 (hc + 4) (by omega) (by omega) (by omega)]
  refine W.vret hx hb hret (fun t ht _ => ⟨_, rfl, rfl, w6, by rw [ht]; exact hW6, ⟨?_, ?_, ?_⟩, ?_, ?_, hz2, ?_, fun q hq => by
        have hq1 := hq
        unfold kr_fr at hq1
        rw [o6 q (by omega), o5 q (by omega) (by omega) (by omega), o4 q (by omega) (by omega) (by omega), o3 q (by omega), o2 q (by omega) (by omega) (by omega), o1 q (by omega) (by omega) (by omega)]⟩) hlc6 d_Cu_measureLine_114
  · rw [o6 (hc + 1) (by omega), o5 (hc + 1) (by omega) (by omega) (by omega), o4 (hc + 1) (by omega) (by omega) (by omega), o3 (hc + 1) (by omega), o2 (hc + 1) (by omega) (by omega) (by omega), o1 (hc + 1) (by omega) (by omega) (by omega)]
  · rw [o6 (hc + 2) (by omega), o5 (hc + 2) (by omega) (by omega) (by omega), o4 (hc + 2) (by omega) (by omega) (by omega), o3 (hc + 2) (by omega), o2 (hc + 2) (by omega) (by omega) (by omega), o1 (hc + 2) (by omega) (by omega) (by omega)]
  · rw [o6 (hc + 3) (by omega), o5 (hc + 3) (by omega) (by omega) (by omega), o4 (hc + 3) (by omega) (by omega) (by omega), o3 (hc + 3) (by omega), o2 (hc + 3) (by omega) (by omega) (by omega), o1 (hc + 3) (by omega) (by omega) (by omega)]
  · rw [r4]
    exact hg
  · rw [r4]
    exact hz1
  · rw [r4, e3]
    exact kp_dif_lt kP_pos
theorem d_Cu_followLine_0 : decode b_Cu_followLine 0 = .ok (.aload_n 0, 1) := by decide +kernel
theorem d_Cu_followLine_1 : decode b_Cu_followLine 1 = .ok (.getfield 45, 3) := by decide +kernel
theorem d_Cu_followLine_4 : decode b_Cu_followLine 4 = .ok (.aload_n 0, 1) := by decide +kernel
theorem d_Cu_followLine_5 : decode b_Cu_followLine 5 = .ok (.getfield 18, 3) := by decide +kernel
theorem d_Cu_followLine_8 : decode b_Cu_followLine 8 = .ok (.aload_n 0, 1) := by decide +kernel
theorem d_Cu_followLine_9 : decode b_Cu_followLine 9 = .ok (.getfield 18, 3) := by decide +kernel
theorem d_Cu_followLine_12 : decode b_Cu_followLine 12 = .ok (.aload_n 0, 1) := by decide +kernel
theorem d_Cu_followLine_13 : decode b_Cu_followLine 13 = .ok (.getfield 21, 3) := by decide +kernel
theorem d_Cu_followLine_16 : decode b_Cu_followLine 16 = .ok (.invokevirtual 68, 3) := by decide +kernel
theorem d_Cu_followLine_19 : decode b_Cu_followLine 19 = .ok (.aload_n 0, 1) := by decide +kernel
theorem d_Cu_followLine_20 : decode b_Cu_followLine 20 = .ok (.getfield 45, 3) := by decide +kernel
theorem d_Cu_followLine_23 : decode b_Cu_followLine 23 = .ok (.aload_n 0, 1) := by decide +kernel
theorem d_Cu_followLine_24 : decode b_Cu_followLine 24 = .ok (.getfield 27, 3) := by decide +kernel
theorem d_Cu_followLine_27 : decode b_Cu_followLine 27 = .ok (.aload_n 0, 1) := by decide +kernel
theorem d_Cu_followLine_28 : decode b_Cu_followLine 28 = .ok (.getfield 21, 3) := by decide +kernel
theorem d_Cu_followLine_31 : decode b_Cu_followLine 31 = .ok (.aload_n 0, 1) := by decide +kernel
theorem d_Cu_followLine_32 : decode b_Cu_followLine 32 = .ok (.getfield 21, 3) := by decide +kernel
theorem d_Cu_followLine_35 : decode b_Cu_followLine 35 = .ok (.invokevirtual 68, 3) := by decide +kernel
theorem d_Cu_followLine_38 : decode b_Cu_followLine 38 = .ok (.aload_n 0, 1) := by decide +kernel
theorem d_Cu_followLine_39 : decode b_Cu_followLine 39 = .ok (.getfield 45, 3) := by decide +kernel
theorem d_Cu_followLine_42 : decode b_Cu_followLine 42 = .ok (.aload_n 0, 1) := by decide +kernel
theorem d_Cu_followLine_43 : decode b_Cu_followLine 43 = .ok (.getfield 30, 3) := by decide +kernel
theorem d_Cu_followLine_46 : decode b_Cu_followLine 46 = .ok (.aload_n 0, 1) := by decide +kernel
theorem d_Cu_followLine_47 : decode b_Cu_followLine 47 = .ok (.getfield 27, 3) := by decide +kernel
theorem d_Cu_followLine_50 : decode b_Cu_followLine 50 = .ok (.aload_n 0, 1) := by decide +kernel
theorem d_Cu_followLine_51 : decode b_Cu_followLine 51 = .ok (.getfield 21, 3) := by decide +kernel
theorem d_Cu_followLine_54 : decode b_Cu_followLine 54 = .ok (.invokevirtual 68, 3) := by decide +kernel
theorem d_Cu_followLine_57 : decode b_Cu_followLine 57 = .ok (.aload_n 0, 1) := by decide +kernel
theorem d_Cu_followLine_58 : decode b_Cu_followLine 58 = .ok (.getfield 45, 3) := by decide +kernel
theorem d_Cu_followLine_61 : decode b_Cu_followLine 61 = .ok (.aload_n 0, 1) := by decide +kernel
theorem d_Cu_followLine_62 : decode b_Cu_followLine 62 = .ok (.getfield 33, 3) := by decide +kernel
theorem d_Cu_followLine_65 : decode b_Cu_followLine 65 = .ok (.aload_n 0, 1) := by decide +kernel
theorem d_Cu_followLine_66 : decode b_Cu_followLine 66 = .ok (.getfield 9, 3) := by decide +kernel
theorem d_Cu_followLine_69 : decode b_Cu_followLine 69 = .ok (.aload_n 0, 1) := by decide +kernel
theorem d_Cu_followLine_70 : decode b_Cu_followLine 70 = .ok (.getfield 27, 3) := by decide +kernel
theorem d_Cu_followLine_73 : decode b_Cu_followLine 73 = .ok (.invokevirtual 68, 3) := by decide +kernel
theorem d_Cu_followLine_76 : decode b_Cu_followLine 76 = .ok (.aload_n 0, 1) := by decide +kernel
theorem d_Cu_followLine_77 : decode b_Cu_followLine 77 = .ok (.getfield 45, 3) := by decide +kernel
theorem d_Cu_followLine_80 : decode b_Cu_followLine 80 = .ok (.aload_n 0, 1) := by decide +kernel
theorem d_Cu_followLine_81 : decode b_Cu_followLine 81 = .ok (.getfield 9, 3) := by decide +kernel
theorem d_Cu_followLine_84 : decode b_Cu_followLine 84 = .ok (.aload_n 0, 1) := by decide +kernel
theorem d_Cu_followLine_85 : decode b_Cu_followLine 85 = .ok (.getfield 24, 3) := by decide +kernel
theorem d_Cu_followLine_88 : decode b_Cu_followLine 88 = .ok (.aload_n 0, 1) := by decide +kernel
theorem d_Cu_followLine_89 : decode b_Cu_followLine 89 = .ok (.getfield 24, 3) := by decide +kernel
theorem d_Cu_followLine_92 : decode b_Cu_followLine 92 = .ok (.invokevirtual 68, 3) := by decide +kernel
theorem d_Cu_followLine_95 : decode b_Cu_followLine 95 = .ok (.aload_n 0, 1) := by decide +kernel
theorem d_Cu_followLine_96 : decode b_Cu_followLine 96 = .ok (.getfield 45, 3) := by decide +kernel
theorem d_Cu_followLine_99 : decode b_Cu_followLine 99 = .ok (.aload_n 0, 1) := by decide +kernel
theorem d_Cu_followLine_100 : decode b_Cu_followLine 100 = .ok (.getfield 9, 3) := by decide +kernel
theorem d_Cu_followLine_103 : decode b_Cu_followLine 103 = .ok (.aload_n 0, 1) := by decide +kernel
theorem d_Cu_followLine_104 : decode b_Cu_followLine 104 = .ok (.getfield 9, 3) := by decide +kernel
theorem d_Cu_followLine_107 : decode b_Cu_followLine 107 = .ok (.aload_n 0, 1) := by decide +kernel
theorem d_Cu_followLine_108 : decode b_Cu_followLine 108 = .ok (.getfield 30, 3) := by decide +kernel
theorem d_Cu_followLine_111 : decode b_Cu_followLine 111 = .ok (.invokevirtual 82, 3) := by decide +kernel
theorem d_Cu_followLine_114 : decode b_Cu_followLine 114 = .ok (.aload_n 0, 1) := by decide +kernel
theorem d_Cu_followLine_115 : decode b_Cu_followLine 115 = .ok (.getfield 45, 3) := by decide +kernel
theorem d_Cu_followLine_118 : decode b_Cu_followLine 118 = .ok (.aload_n 0, 1) := by decide +kernel
theorem d_Cu_followLine_119 : decode b_Cu_followLine 119 = .ok (.getfield 9, 3) := by decide +kernel
theorem d_Cu_followLine_122 : decode b_Cu_followLine 122 = .ok (.aload_n 0, 1) := by decide +kernel
theorem d_Cu_followLine_123 : decode b_Cu_followLine 123 = .ok (.getfield 9, 3) := by decide +kernel
theorem d_Cu_followLine_126 : decode b_Cu_followLine 126 = .ok (.aload_n 0, 1) := by decide +kernel
theorem d_Cu_followLine_127 : decode b_Cu_followLine 127 = .ok (.getfield 33, 3) := by decide +kernel
theorem d_Cu_followLine_130 : decode b_Cu_followLine 130 = .ok (.invokevirtual 82, 3) := by decide +kernel
theorem d_Cu_followLine_133 : decode b_Cu_followLine 133 = .ok (.aload_n 0, 1) := by decide +kernel
theorem d_Cu_followLine_134 : decode b_Cu_followLine 134 = .ok (.getfield 45, 3) := by decide +kernel
theorem d_Cu_followLine_137 : decode b_Cu_followLine 137 = .ok (.aload_n 0, 1) := by decide +kernel
theorem d_Cu_followLine_138 : decode b_Cu_followLine 138 = .ok (.getfield 9, 3) := by decide +kernel
theorem d_Cu_followLine_141 : decode b_Cu_followLine 141 = .ok (.aload_n 0, 1) := by decide +kernel
theorem d_Cu_followLine_142 : decode b_Cu_followLine 142 = .ok (.getfield 9, 3) := by decide +kernel
theorem d_Cu_followLine_145 : decode b_Cu_followLine 145 = .ok (.aload_n 0, 1) := by decide +kernel
theorem d_Cu_followLine_146 : decode b_Cu_followLine 146 = .ok (.getfield 33, 3) := by decide +kernel
theorem d_Cu_followLine_149 : decode b_Cu_followLine 149 = .ok (.invokevirtual 82, 3) := by decide +kernel
theorem d_Cu_followLine_152 : decode b_Cu_followLine 152 = .ok (.aload_n 0, 1) := by decide +kernel
theorem d_Cu_followLine_153 : decode b_Cu_followLine 153 = .ok (.getfield 45, 3) := by decide +kernel
theorem d_Cu_followLine_156 : decode b_Cu_followLine 156 = .ok (.aload_n 0, 1) := by decide +kernel
theorem d_Cu_followLine_157 : decode b_Cu_followLine 157 = .ok (.getfield 33, 3) := by decide +kernel
theorem d_Cu_followLine_160 : decode b_Cu_followLine 160 = .ok (.aload_n 0, 1) := by decide +kernel
theorem d_Cu_followLine_161 : decode b_Cu_followLine 161 = .ok (.getfield 33, 3) := by decide +kernel
theorem d_Cu_followLine_164 : decode b_Cu_followLine 164 = .ok (.aload_n 0, 1) := by decide +kernel
theorem d_Cu_followLine_165 : decode b_Cu_followLine 165 = .ok (.getfield 9, 3) := by decide +kernel
theorem d_Cu_followLine_168 : decode b_Cu_followLine 168 = .ok (.invokevirtual 82, 3) := by decide +kernel
theorem d_Cu_followLine_171 : decode b_Cu_followLine 171 = .ok (.aload_n 0, 1) := by decide +kernel
theorem d_Cu_followLine_172 : decode b_Cu_followLine 172 = .ok (.getfield 45, 3) := by decide +kernel
theorem d_Cu_followLine_175 : decode b_Cu_followLine 175 = .ok (.aload_n 0, 1) := by decide +kernel
theorem d_Cu_followLine_176 : decode b_Cu_followLine 176 = .ok (.getfield 30, 3) := by decide +kernel
theorem d_Cu_followLine_179 : decode b_Cu_followLine 179 = .ok (.aload_n 0, 1) := by decide +kernel
theorem d_Cu_followLine_180 : decode b_Cu_followLine 180 = .ok (.getfield 30, 3) := by decide +kernel
theorem d_Cu_followLine_183 : decode b_Cu_followLine 183 = .ok (.aload_n 0, 1) := by decide +kernel
theorem d_Cu_followLine_184 : decode b_Cu_followLine 184 = .ok (.getfield 15, 3) := by decide +kernel
theorem d_Cu_followLine_187 : decode b_Cu_followLine 187 = .ok (.invokevirtual 68, 3) := by decide +kernel
theorem d_Cu_followLine_190 : decode b_Cu_followLine 190 = .ok (.aload_n 0, 1) := by decide +kernel
theorem d_Cu_followLine_191 : decode b_Cu_followLine 191 = .ok (.getfield 45, 3) := by decide +kernel
theorem d_Cu_followLine_194 : decode b_Cu_followLine 194 = .ok (.aload_n 0, 1) := by decide +kernel
theorem d_Cu_followLine_195 : decode b_Cu_followLine 195 = .ok (.getfield 15, 3) := by decide +kernel
theorem d_Cu_followLine_198 : decode b_Cu_followLine 198 = .ok (.aload_n 0, 1) := by decide +kernel
theorem d_Cu_followLine_199 : decode b_Cu_followLine 199 = .ok (.getfield 24, 3) := by decide +kernel
theorem d_Cu_followLine_202 : decode b_Cu_followLine 202 = .ok (.aload_n 0, 1) := by decide +kernel
theorem d_Cu_followLine_203 : decode b_Cu_followLine 203 = .ok (.getfield 33, 3) := by decide +kernel
theorem d_Cu_followLine_206 : decode b_Cu_followLine 206 = .ok (.invokevirtual 68, 3) := by decide +kernel
theorem d_Cu_followLine_209 : decode b_Cu_followLine 209 = .ok (.aload_n 0, 1) := by decide +kernel
theorem d_Cu_followLine_210 : decode b_Cu_followLine 210 = .ok (.getfield 45, 3) := by decide +kernel
theorem d_Cu_followLine_213 : decode b_Cu_followLine 213 = .ok (.aload_n 0, 1) := by decide +kernel
theorem d_Cu_followLine_214 : decode b_Cu_followLine 214 = .ok (.getfield 15, 3) := by decide +kernel
theorem d_Cu_followLine_217 : decode b_Cu_followLine 217 = .ok (.aload_n 0, 1) := by decide +kernel
theorem d_Cu_followLine_218 : decode b_Cu_followLine 218 = .ok (.getfield 15, 3) := by decide +kernel
theorem d_Cu_followLine_221 : decode b_Cu_followLine 221 = .ok (.aload_n 0, 1) := by decide +kernel
theorem d_Cu_followLine_222 : decode b_Cu_followLine 222 = .ok (.getfield 30, 3) := by decide +kernel
theorem d_Cu_followLine_225 : decode b_Cu_followLine 225 = .ok (.invokevirtual 82, 3) := by decide +kernel
theorem d_Cu_followLine_228 : decode b_Cu_followLine 228 = .ok (.return_, 1) := by decide +kernel
set_option maxHeartbeats 4000000 in
set_option maxRecDepth 100000 in
theorem c_Cu_followLine (l : Launch) (E : kr_E) (A : Nat → Nat) (h pa ga gw G hc : Nat) (v : Nat → Nat) (H : Heap) (hE : kr_ok E) (hA : kr_A E A) (hP : kr_P E h pa ga gw kP G) (hV : kr_V E hc h) (hW : kr_W E v H) (q0 : Nat × Nat) (bx by1 : Nat) (hrep : kc_rep (some q0) (v (hc + 1)) (v (hc + 2)) (v (hc + 3))) (hbx : bx < kP) (hby : by1 < kP) (g1 : kj_f (v (hc + 4)) = kj_f bx * (kj_f (v (hc + 3)) * kj_f (v (hc + 3))) - kj_f (v (hc + 1))) (g2 : kj_f (v (hc + 5)) = kj_f by1 * (kj_f (v (hc + 3)) * kj_f (v (hc + 3)) * kj_f (v (hc + 3))) - kj_f (v (hc + 2))) (hrl : v (hc + 4) < kP) (hr0 : v (hc + 4) ≠ 0) (hne : q0.1 ≠ bx) : Met l y_Cu_followLine w_Cu_followLine ({ frames := 3, cells := 0, slots := 0, locals := 75 }) (kq_P [.ref hc] H (kr_C E A)) (kq_Q (fun o1 H1 => o1 = none ∧ ∃ w : Nat → Nat, kr_W E w H1 ∧ kc_rep (kc_join (some q0) bx by1) (w (hc + 1)) (w (hc + 2)) (w (hc + 3)) ∧ ∀ q, ¬ kr_fr h hc q → w q = v q)) 0 0 (kr_fr h hc) := by
  refine Met.ofW (cc := b_Cu_followLine) (maxL := 1) (ret := none) (by decide) rfl ?_
  intro p e s m args below meth c s₁ B0 hml hv
  obtain ⟨rfl, hH, hC⟩ := hv
  have hx := B0.exec
  have hb := B0.bytes
  have hret := B0.returns
  have hts := atoms_spec (ws := w_Cu_followLine) B0.pre
  have hown : s.vm.findClass R_Cu = some m.cls := findClass_of_methodNamed B0.named
  have hlocks := B0.notSynchronized
  rw [hH]
  have hl := lv_entry ([.ref hc]) (n := 1) (Nat.le_of_ble_eq_true rfl)
  rw [lg_entry_eq]
  generalize (lg_sl ([.ref hc]) ++ List.replicate (1 - (lg_sl ([.ref hc])).length) Slot.unset).toArray = ls at hl ⊢
  have hl : lv_has ls 1 [(0, .ref hc)] := hl
  have hB := hC.1
  have hT := kr_T hE hB
  have hK := hB.1
  have hhc := hV.2.2.2
  have hlc0 : ∀ q ∈ ([] : List Loc), kr_fr h hc q.base := fun q h => by cases h
  have hOc0 := kr_obj hW hV.1 hV.2.1
  have hOp0 := kr_obj hW hP.1 hP.2.1
  refine lv_aload_n hx hb d_Cu_followLine_0 rfl (lv_at hl 0 rfl) ?_
  refine kq_get hx hb hts kt_F_Cu hown hK hOc0 rfl 0 (by decide) kt_w99 rfl d_Cu_followLine_1 ?_
  refine lv_aload_n hx hb d_Cu_followLine_4 rfl (lv_at hl 0 rfl) ?_
  refine kq_get hx hb hts kt_F_Cu hown hK hOc0 rfl 3 (by decide) kt_w102 rfl d_Cu_followLine_5 ?_
  refine lv_aload_n hx hb d_Cu_followLine_8 rfl (lv_at hl 0 rfl) ?_
  refine kq_get hx hb hts kt_F_Cu hown hK hOc0 rfl 3 (by decide) kt_w102 rfl d_Cu_followLine_9 ?_
  refine lv_aload_n hx hb d_Cu_followLine_12 rfl (lv_at hl 0 rfl) ?_
  refine kq_get hx hb hts kt_F_Cu hown hK hOc0 rfl 4 (by decide) kt_w103 rfl d_Cu_followLine_13 ?_
  refine kq_call (va_runV (As := [.ref (hc + 3), .ref (hc + 3), .ref (hc + 4)]) (rest := []) ⟨hx, hb, hml, hown, hts⟩ (c_Pr_product l E h pa ga gw kP G v H hE hP hW (hc + 3) (hc + 3) (hc + 4) (hV.2.2.1 3 (by decide) (by decide)) (Or.inl (hV.2.2.1 3 (by decide) (by decide))) (Or.inl (hV.2.2.1 4 (by decide) (by decide)))) (cwV 3 hts (kt_inV kt_w206 kt_w260 kt_w204 kt_w205 kt_w3) rfl rfl rfl (by decide +kernel) ⟨Nat.le_of_ble_eq_true rfl, Nat.le_of_ble_eq_true rfl⟩) (kq_preV (kr_st E) (hC.1) (kq_recv hC.1.1 hOp0 rfl)) rfl rfl hl.1 rfl (lv_room (Nat.le_of_ble_eq_true rfl)) d_Cu_followLine_16 ⟨Nat.zero_le _, Nat.zero_le _⟩) (fun u1 H1 L1 hq1 hL1 => ?_)
  obtain ⟨rfl, w1, hW1, f1, o1⟩ := hq1
  refine W.eq (g2 := F0 m 19 ls []) rfl ?_
  have hlc1 := t_lL (free := kr_fr h hc) hlc0 (fun q z => by rcases hL1 q z with z | z | z <;> (rw [z]; unfold kr_fr; omega))
  have e1 : w1 (hc + 3) = v (hc + 3) * v (hc + 4) % kP := by rw [f1]
  have hOc1 := kr_obj hW1 hV.1 hV.2.1
  have hOp1 := kr_obj hW1 hP.1 hP.2.1
  refine lv_aload_n hx hb d_Cu_followLine_19 rfl (lv_at hl 0 rfl) ?_
  refine kq_get hx hb hts kt_F_Cu hown hK hOc1 rfl 0 (by decide) kt_w99 rfl d_Cu_followLine_20 ?_
  refine lv_aload_n hx hb d_Cu_followLine_23 rfl (lv_at hl 0 rfl) ?_
  refine kq_get hx hb hts kt_F_Cu hown hK hOc1 rfl 6 (by decide) kt_w105 rfl d_Cu_followLine_24 ?_
  refine lv_aload_n hx hb d_Cu_followLine_27 rfl (lv_at hl 0 rfl) ?_
  refine kq_get hx hb hts kt_F_Cu hown hK hOc1 rfl 4 (by decide) kt_w103 rfl d_Cu_followLine_28 ?_
  refine lv_aload_n hx hb d_Cu_followLine_31 rfl (lv_at hl 0 rfl) ?_
  refine kq_get hx hb hts kt_F_Cu hown hK hOc1 rfl 4 (by decide) kt_w103 rfl d_Cu_followLine_32 ?_
  refine kq_call (va_runV (As := [.ref (hc + 6), .ref (hc + 4), .ref (hc + 4)]) (rest := []) ⟨hx, hb, hml, hown, hts⟩ (c_Pr_product l E h pa ga gw kP G w1 H1 hE hP hW1 (hc + 6) (hc + 4) (hc + 4) (hV.2.2.1 6 (by decide) (by decide)) (Or.inl (hV.2.2.1 4 (by decide) (by decide))) (Or.inl (hV.2.2.1 4 (by decide) (by decide)))) (cwV 3 hts (kt_inV kt_w206 kt_w260 kt_w204 kt_w205 kt_w3) rfl rfl rfl (by decide +kernel) ⟨Nat.le_of_ble_eq_true rfl, Nat.le_of_ble_eq_true rfl⟩) (kq_preV (kr_st E) (hC.1) (kq_recv hC.1.1 hOp1 rfl)) rfl rfl hl.1 rfl (lv_room (Nat.le_of_ble_eq_true rfl)) d_Cu_followLine_35 ⟨Nat.zero_le _, Nat.zero_le _⟩) (fun u2 H2 L2 hq2 hL2 => ?_)
  obtain ⟨rfl, w2, hW2, f2, o2⟩ := hq2
  refine W.eq (g2 := F0 m 38 ls []) rfl ?_
  have hlc2 := t_lL (free := kr_fr h hc) hlc1 (fun q z => by rcases hL2 q z with z | z | z <;> (rw [z]; unfold kr_fr; omega))
  have e2 : w2 (hc + 6) = v (hc + 4) * v (hc + 4) % kP := by rw [f2, o1 (hc + 4) (by omega) (by omega) (by omega)]
  have hOc2 := kr_obj hW2 hV.1 hV.2.1
  have hOp2 := kr_obj hW2 hP.1 hP.2.1
  refine lv_aload_n hx hb d_Cu_followLine_38 rfl (lv_at hl 0 rfl) ?_
  refine kq_get hx hb hts kt_F_Cu hown hK hOc2 rfl 0 (by decide) kt_w99 rfl d_Cu_followLine_39 ?_
  refine lv_aload_n hx hb d_Cu_followLine_42 rfl (lv_at hl 0 rfl) ?_
  refine kq_get hx hb hts kt_F_Cu hown hK hOc2 rfl 7 (by decide) kt_w106 rfl d_Cu_followLine_43 ?_
  refine lv_aload_n hx hb d_Cu_followLine_46 rfl (lv_at hl 0 rfl) ?_
  refine kq_get hx hb hts kt_F_Cu hown hK hOc2 rfl 6 (by decide) kt_w105 rfl d_Cu_followLine_47 ?_
  refine lv_aload_n hx hb d_Cu_followLine_50 rfl (lv_at hl 0 rfl) ?_
  refine kq_get hx hb hts kt_F_Cu hown hK hOc2 rfl 4 (by decide) kt_w103 rfl d_Cu_followLine_51 ?_
  refine kq_call (va_runV (As := [.ref (hc + 7), .ref (hc + 6), .ref (hc + 4)]) (rest := []) ⟨hx, hb, hml, hown, hts⟩ (c_Pr_product l E h pa ga gw kP G w2 H2 hE hP hW2 (hc + 7) (hc + 6) (hc + 4) (hV.2.2.1 7 (by decide) (by decide)) (Or.inl (hV.2.2.1 6 (by decide) (by decide))) (Or.inl (hV.2.2.1 4 (by decide) (by decide)))) (cwV 3 hts (kt_inV kt_w206 kt_w260 kt_w204 kt_w205 kt_w3) rfl rfl rfl (by decide +kernel) ⟨Nat.le_of_ble_eq_true rfl, Nat.le_of_ble_eq_true rfl⟩) (kq_preV (kr_st E) (hC.1) (kq_recv hC.1.1 hOp2 rfl)) rfl rfl hl.1 rfl (lv_room (Nat.le_of_ble_eq_true rfl)) d_Cu_followLine_54 ⟨Nat.zero_le _, Nat.zero_le _⟩) (fun u3 H3 L3 hq3 hL3 => ?_)
  obtain ⟨rfl, w3, hW3, f3, o3⟩ := hq3
  refine W.eq (g2 := F0 m 57 ls []) rfl ?_
  have hlc3 := t_lL (free := kr_fr h hc) hlc2 (fun q z => by rcases hL3 q z with z | z | z <;> (rw [z]; unfold kr_fr; omega))
  have e3 : w3 (hc + 7) = w2 (hc + 6) * v (hc + 4) % kP := by rw [f3, o2 (hc + 4) (by omega) (by omega) (by omega), o1 (hc + 4) (by omega) (by omega) (by omega)]
  have hOc3 := kr_obj hW3 hV.1 hV.2.1
  have hOp3 := kr_obj hW3 hP.1 hP.2.1
  refine lv_aload_n hx hb d_Cu_followLine_57 rfl (lv_at hl 0 rfl) ?_
  refine kq_get hx hb hts kt_F_Cu hown hK hOc3 rfl 0 (by decide) kt_w99 rfl d_Cu_followLine_58 ?_
  refine lv_aload_n hx hb d_Cu_followLine_61 rfl (lv_at hl 0 rfl) ?_
  refine kq_get hx hb hts kt_F_Cu hown hK hOc3 rfl 8 (by decide) kt_w107 rfl d_Cu_followLine_62 ?_
  refine lv_aload_n hx hb d_Cu_followLine_65 rfl (lv_at hl 0 rfl) ?_
  refine kq_get hx hb hts kt_F_Cu hown hK hOc3 rfl 1 (by decide) kt_w100 rfl d_Cu_followLine_66 ?_
  refine lv_aload_n hx hb d_Cu_followLine_69 rfl (lv_at hl 0 rfl) ?_
  refine kq_get hx hb hts kt_F_Cu hown hK hOc3 rfl 6 (by decide) kt_w105 rfl d_Cu_followLine_70 ?_
  refine kq_call (va_runV (As := [.ref (hc + 8), .ref (hc + 1), .ref (hc + 6)]) (rest := []) ⟨hx, hb, hml, hown, hts⟩ (c_Pr_product l E h pa ga gw kP G w3 H3 hE hP hW3 (hc + 8) (hc + 1) (hc + 6) (hV.2.2.1 8 (by decide) (by decide)) (Or.inl (hV.2.2.1 1 (by decide) (by decide))) (Or.inl (hV.2.2.1 6 (by decide) (by decide)))) (cwV 3 hts (kt_inV kt_w206 kt_w260 kt_w204 kt_w205 kt_w3) rfl rfl rfl (by decide +kernel) ⟨Nat.le_of_ble_eq_true rfl, Nat.le_of_ble_eq_true rfl⟩) (kq_preV (kr_st E) (hC.1) (kq_recv hC.1.1 hOp3 rfl)) rfl rfl hl.1 rfl (lv_room (Nat.le_of_ble_eq_true rfl)) d_Cu_followLine_73 ⟨Nat.zero_le _, Nat.zero_le _⟩) (fun u4 H4 L4 hq4 hL4 => ?_)
  obtain ⟨rfl, w4, hW4, f4, o4⟩ := hq4
  refine W.eq (g2 := F0 m 76 ls []) rfl ?_
  have hlc4 := t_lL (free := kr_fr h hc) hlc3 (fun q z => by rcases hL4 q z with z | z | z <;> (rw [z]; unfold kr_fr; omega))
  have e4 : w4 (hc + 8) = v (hc + 1) * w2 (hc + 6) % kP := by rw [f4, o3 (hc + 1) (by omega) (by omega) (by omega), o2 (hc + 1) (by omega) (by omega) (by omega), o1 (hc + 1) (by omega) (by omega) (by omega), o3 (hc + 6) (by omega) (by omega) (by omega)]
  have hOc4 := kr_obj hW4 hV.1 hV.2.1
  have hOp4 := kr_obj hW4 hP.1 hP.2.1
  refine lv_aload_n hx hb d_Cu_followLine_76 rfl (lv_at hl 0 rfl) ?_
  refine kq_get hx hb hts kt_F_Cu hown hK hOc4 rfl 0 (by decide) kt_w99 rfl d_Cu_followLine_77 ?_
  refine lv_aload_n hx hb d_Cu_followLine_80 rfl (lv_at hl 0 rfl) ?_
  refine kq_get hx hb hts kt_F_Cu hown hK hOc4 rfl 1 (by decide) kt_w100 rfl d_Cu_followLine_81 ?_
  refine lv_aload_n hx hb d_Cu_followLine_84 rfl (lv_at hl 0 rfl) ?_
  refine kq_get hx hb hts kt_F_Cu hown hK hOc4 rfl 5 (by decide) kt_w104 rfl d_Cu_followLine_85 ?_
  refine lv_aload_n hx hb d_Cu_followLine_88 rfl (lv_at hl 0 rfl) ?_
  refine kq_get hx hb hts kt_F_Cu hown hK hOc4 rfl 5 (by decide) kt_w104 rfl d_Cu_followLine_89 ?_
  refine kq_call (va_runV (As := [.ref (hc + 1), .ref (hc + 5), .ref (hc + 5)]) (rest := []) ⟨hx, hb, hml, hown, hts⟩ (c_Pr_product l E h pa ga gw kP G w4 H4 hE hP hW4 (hc + 1) (hc + 5) (hc + 5) (hV.2.2.1 1 (by decide) (by decide)) (Or.inl (hV.2.2.1 5 (by decide) (by decide))) (Or.inl (hV.2.2.1 5 (by decide) (by decide)))) (cwV 3 hts (kt_inV kt_w206 kt_w260 kt_w204 kt_w205 kt_w3) rfl rfl rfl (by decide +kernel) ⟨Nat.le_of_ble_eq_true rfl, Nat.le_of_ble_eq_true rfl⟩) (kq_preV (kr_st E) (hC.1) (kq_recv hC.1.1 hOp4 rfl)) rfl rfl hl.1 rfl (lv_room (Nat.le_of_ble_eq_true rfl)) d_Cu_followLine_92 ⟨Nat.zero_le _, Nat.zero_le _⟩) (fun u5 H5 L5 hq5 hL5 => ?_)
  obtain ⟨rfl, w5, hW5, f5, o5⟩ := hq5
  refine W.eq (g2 := F0 m 95 ls []) rfl ?_
  have hlc5 := t_lL (free := kr_fr h hc) hlc4 (fun q z => by rcases hL5 q z with z | z | z <;> (rw [z]; unfold kr_fr; omega))
  have e5 : w5 (hc + 1) = v (hc + 5) * v (hc + 5) % kP := by rw [f5, o4 (hc + 5) (by omega) (by omega) (by omega), o3 (hc + 5) (by omega) (by omega) (by omega), o2 (hc + 5) (by omega) (by omega) (by omega), o1 (hc + 5) (by omega) (by omega) (by omega)]
  have hOc5 := kr_obj hW5 hV.1 hV.2.1
  have hOp5 := kr_obj hW5 hP.1 hP.2.1
  refine lv_aload_n hx hb d_Cu_followLine_95 rfl (lv_at hl 0 rfl) ?_
  refine kq_get hx hb hts kt_F_Cu hown hK hOc5 rfl 0 (by decide) kt_w99 rfl d_Cu_followLine_96 ?_
  refine lv_aload_n hx hb d_Cu_followLine_99 rfl (lv_at hl 0 rfl) ?_
  refine kq_get hx hb hts kt_F_Cu hown hK hOc5 rfl 1 (by decide) kt_w100 rfl d_Cu_followLine_100 ?_
  refine lv_aload_n hx hb d_Cu_followLine_103 rfl (lv_at hl 0 rfl) ?_
  refine kq_get hx hb hts kt_F_Cu hown hK hOc5 rfl 1 (by decide) kt_w100 rfl d_Cu_followLine_104 ?_
  refine lv_aload_n hx hb d_Cu_followLine_107 rfl (lv_at hl 0 rfl) ?_
  refine kq_get hx hb hts kt_F_Cu hown hK hOc5 rfl 7 (by decide) kt_w106 rfl d_Cu_followLine_108 ?_
  refine kq_call (va_runV (As := [.ref (hc + 1), .ref (hc + 1), .ref (hc + 7)]) (rest := []) ⟨hx, hb, hml, hown, hts⟩ (c_Pr_difference l E h pa ga gw kP G w5 H5 hE hP hW5 (hc + 1) (hc + 1) (hc + 7) (hV.2.2.1 1 (by decide) (by decide)) (Or.inl (hV.2.2.1 1 (by decide) (by decide))) (Or.inl (hV.2.2.1 7 (by decide) (by decide)))) (cwV 3 hts (kt_inV kt_w198 kt_w268 kt_w196 kt_w197 kt_w3) rfl rfl rfl (by decide +kernel) ⟨Nat.le_of_ble_eq_true rfl, Nat.le_of_ble_eq_true rfl⟩) (kq_preV (kr_st E) (hC.1) (kq_recv hC.1.1 hOp5 rfl)) rfl rfl hl.1 rfl (lv_room (Nat.le_of_ble_eq_true rfl)) d_Cu_followLine_111 ⟨Nat.zero_le _, Nat.zero_le _⟩) (fun u6 H6 L6 hq6 hL6 => ?_)
  obtain ⟨rfl, hX6⟩ := hq6
  refine W.eq (g2 := F0 m 114 ls []) rfl ?_
  obtain ⟨w6, f6, o6, hW6⟩ : ∃ w : Nat → Nat, w (hc + 1) = kp_dif kP (w5 (hc + 1)) (w5 (hc + 7)) ∧ (∀ q, q ≠ hc + 1 → w q = w5 q) ∧ kr_W E w H6 := ⟨_, kq_up_at, fun q hq => kq_up_ne hq, hX6⟩
  have hlc6 := t_lL (free := kr_fr h hc) hlc5 (fun q z => by rw [hL6 q z]; unfold kr_fr; omega)
  have e6 : w6 (hc + 1) = kp_dif kP (w5 (hc + 1)) (w3 (hc + 7)) := by rw [f6, o5 (hc + 7) (by omega) (by omega) (by omega), o4 (hc + 7) (by omega) (by omega) (by omega)]
  have hOc6 := kr_obj hW6 hV.1 hV.2.1
  have hOp6 := kr_obj hW6 hP.1 hP.2.1
  refine lv_aload_n hx hb d_Cu_followLine_114 rfl (lv_at hl 0 rfl) ?_
  refine kq_get hx hb hts kt_F_Cu hown hK hOc6 rfl 0 (by decide) kt_w99 rfl d_Cu_followLine_115 ?_
  refine lv_aload_n hx hb d_Cu_followLine_118 rfl (lv_at hl 0 rfl) ?_
  refine kq_get hx hb hts kt_F_Cu hown hK hOc6 rfl 1 (by decide) kt_w100 rfl d_Cu_followLine_119 ?_
  refine lv_aload_n hx hb d_Cu_followLine_122 rfl (lv_at hl 0 rfl) ?_
  refine kq_get hx hb hts kt_F_Cu hown hK hOc6 rfl 1 (by decide) kt_w100 rfl d_Cu_followLine_123 ?_
  refine lv_aload_n hx hb d_Cu_followLine_126 rfl (lv_at hl 0 rfl) ?_
  refine kq_get hx hb hts kt_F_Cu hown hK hOc6 rfl 8 (by decide) kt_w107 rfl d_Cu_followLine_127 ?_
  refine kq_call (va_runV (As := [.ref (hc + 1), .ref (hc + 1), .ref (hc + 8)]) (rest := []) ⟨hx, hb, hml, hown, hts⟩ (c_Pr_difference l E h pa ga gw kP G w6 H6 hE hP hW6 (hc + 1) (hc + 1) (hc + 8) (hV.2.2.1 1 (by decide) (by decide)) (Or.inl (hV.2.2.1 1 (by decide) (by decide))) (Or.inl (hV.2.2.1 8 (by decide) (by decide)))) (cwV 3 hts (kt_inV kt_w198 kt_w268 kt_w196 kt_w197 kt_w3) rfl rfl rfl (by decide +kernel) ⟨Nat.le_of_ble_eq_true rfl, Nat.le_of_ble_eq_true rfl⟩) (kq_preV (kr_st E) (hC.1) (kq_recv hC.1.1 hOp6 rfl)) rfl rfl hl.1 rfl (lv_room (Nat.le_of_ble_eq_true rfl)) d_Cu_followLine_130 ⟨Nat.zero_le _, Nat.zero_le _⟩) (fun u7 H7 L7 hq7 hL7 => ?_)
  obtain ⟨rfl, hX7⟩ := hq7
  refine W.eq (g2 := F0 m 133 ls []) rfl ?_
  obtain ⟨w7, f7, o7, hW7⟩ : ∃ w : Nat → Nat, w (hc + 1) = kp_dif kP (w6 (hc + 1)) (w6 (hc + 8)) ∧ (∀ q, q ≠ hc + 1 → w q = w6 q) ∧ kr_W E w H7 := ⟨_, kq_up_at, fun q hq => kq_up_ne hq, hX7⟩
  have hlc7 := t_lL (free := kr_fr h hc) hlc6 (fun q z => by rw [hL7 q z]; unfold kr_fr; omega)
  have e7 : w7 (hc + 1) = kp_dif kP (w6 (hc + 1)) (w4 (hc + 8)) := by rw [f7, o6 (hc + 8) (by omega), o5 (hc + 8) (by omega) (by omega) (by omega)]
  have hOc7 := kr_obj hW7 hV.1 hV.2.1
  have hOp7 := kr_obj hW7 hP.1 hP.2.1
  refine lv_aload_n hx hb d_Cu_followLine_133 rfl (lv_at hl 0 rfl) ?_
  refine kq_get hx hb hts kt_F_Cu hown hK hOc7 rfl 0 (by decide) kt_w99 rfl d_Cu_followLine_134 ?_
  refine lv_aload_n hx hb d_Cu_followLine_137 rfl (lv_at hl 0 rfl) ?_
  refine kq_get hx hb hts kt_F_Cu hown hK hOc7 rfl 1 (by decide) kt_w100 rfl d_Cu_followLine_138 ?_
  refine lv_aload_n hx hb d_Cu_followLine_141 rfl (lv_at hl 0 rfl) ?_
  refine kq_get hx hb hts kt_F_Cu hown hK hOc7 rfl 1 (by decide) kt_w100 rfl d_Cu_followLine_142 ?_
  refine lv_aload_n hx hb d_Cu_followLine_145 rfl (lv_at hl 0 rfl) ?_
  refine kq_get hx hb hts kt_F_Cu hown hK hOc7 rfl 8 (by decide) kt_w107 rfl d_Cu_followLine_146 ?_
  refine kq_call (va_runV (As := [.ref (hc + 1), .ref (hc + 1), .ref (hc + 8)]) (rest := []) ⟨hx, hb, hml, hown, hts⟩ (c_Pr_difference l E h pa ga gw kP G w7 H7 hE hP hW7 (hc + 1) (hc + 1) (hc + 8) (hV.2.2.1 1 (by decide) (by decide)) (Or.inl (hV.2.2.1 1 (by decide) (by decide))) (Or.inl (hV.2.2.1 8 (by decide) (by decide)))) (cwV 3 hts (kt_inV kt_w198 kt_w268 kt_w196 kt_w197 kt_w3) rfl rfl rfl (by decide +kernel) ⟨Nat.le_of_ble_eq_true rfl, Nat.le_of_ble_eq_true rfl⟩) (kq_preV (kr_st E) (hC.1) (kq_recv hC.1.1 hOp7 rfl)) rfl rfl hl.1 rfl (lv_room (Nat.le_of_ble_eq_true rfl)) d_Cu_followLine_149 ⟨Nat.zero_le _, Nat.zero_le _⟩) (fun u8 H8 L8 hq8 hL8 => ?_)
  obtain ⟨rfl, hX8⟩ := hq8
  refine W.eq (g2 := F0 m 152 ls []) rfl ?_
  obtain ⟨w8, f8, o8, hW8⟩ : ∃ w : Nat → Nat, w (hc + 1) = kp_dif kP (w7 (hc + 1)) (w7 (hc + 8)) ∧ (∀ q, q ≠ hc + 1 → w q = w7 q) ∧ kr_W E w H8 := ⟨_, kq_up_at, fun q hq => kq_up_ne hq, hX8⟩
  have hlc8 := t_lL (free := kr_fr h hc) hlc7 (fun q z => by rw [hL8 q z]; unfold kr_fr; omega)
  have e8 : w8 (hc + 1) = kp_dif kP (w7 (hc + 1)) (w4 (hc + 8)) := by rw [f8, o7 (hc + 8) (by omega), o6 (hc + 8) (by omega), o5 (hc + 8) (by omega) (by omega) (by omega)]
  have hOc8 := kr_obj hW8 hV.1 hV.2.1
  have hOp8 := kr_obj hW8 hP.1 hP.2.1
  refine lv_aload_n hx hb d_Cu_followLine_152 rfl (lv_at hl 0 rfl) ?_
  refine kq_get hx hb hts kt_F_Cu hown hK hOc8 rfl 0 (by decide) kt_w99 rfl d_Cu_followLine_153 ?_
  refine lv_aload_n hx hb d_Cu_followLine_156 rfl (lv_at hl 0 rfl) ?_
  refine kq_get hx hb hts kt_F_Cu hown hK hOc8 rfl 8 (by decide) kt_w107 rfl d_Cu_followLine_157 ?_
  refine lv_aload_n hx hb d_Cu_followLine_160 rfl (lv_at hl 0 rfl) ?_
  refine kq_get hx hb hts kt_F_Cu hown hK hOc8 rfl 8 (by decide) kt_w107 rfl d_Cu_followLine_161 ?_
  refine lv_aload_n hx hb d_Cu_followLine_164 rfl (lv_at hl 0 rfl) ?_
  refine kq_get hx hb hts kt_F_Cu hown hK hOc8 rfl 1 (by decide) kt_w100 rfl d_Cu_followLine_165 ?_
  refine kq_call (va_runV (As := [.ref (hc + 8), .ref (hc + 8), .ref (hc + 1)]) (rest := []) ⟨hx, hb, hml, hown, hts⟩ (c_Pr_difference l E h pa ga gw kP G w8 H8 hE hP hW8 (hc + 8) (hc + 8) (hc + 1) (hV.2.2.1 8 (by decide) (by decide)) (Or.inl (hV.2.2.1 8 (by decide) (by decide))) (Or.inl (hV.2.2.1 1 (by decide) (by decide)))) (cwV 3 hts (kt_inV kt_w198 kt_w268 kt_w196 kt_w197 kt_w3) rfl rfl rfl (by decide +kernel) ⟨Nat.le_of_ble_eq_true rfl, Nat.le_of_ble_eq_true rfl⟩) (kq_preV (kr_st E) (hC.1) (kq_recv hC.1.1 hOp8 rfl)) rfl rfl hl.1 rfl (lv_room (Nat.le_of_ble_eq_true rfl)) d_Cu_followLine_168 ⟨Nat.zero_le _, Nat.zero_le _⟩) (fun u9 H9 L9 hq9 hL9 => ?_)
  obtain ⟨rfl, hX9⟩ := hq9
  refine W.eq (g2 := F0 m 171 ls []) rfl ?_
  obtain ⟨w9, f9, o9, hW9⟩ : ∃ w : Nat → Nat, w (hc + 8) = kp_dif kP (w8 (hc + 8)) (w8 (hc + 1)) ∧ (∀ q, q ≠ hc + 8 → w q = w8 q) ∧ kr_W E w H9 := ⟨_, kq_up_at, fun q hq => kq_up_ne hq, hX9⟩
  have hlc9 := t_lL (free := kr_fr h hc) hlc8 (fun q z => by rw [hL9 q z]; unfold kr_fr; omega)
  have e9 : w9 (hc + 8) = kp_dif kP (w4 (hc + 8)) (w8 (hc + 1)) := by rw [f9, o8 (hc + 8) (by omega), o7 (hc + 8) (by omega), o6 (hc + 8) (by omega), o5 (hc + 8) (by omega) (by omega) (by omega)]
  have hOc9 := kr_obj hW9 hV.1 hV.2.1
  have hOp9 := kr_obj hW9 hP.1 hP.2.1
  refine lv_aload_n hx hb d_Cu_followLine_171 rfl (lv_at hl 0 rfl) ?_
  refine kq_get hx hb hts kt_F_Cu hown hK hOc9 rfl 0 (by decide) kt_w99 rfl d_Cu_followLine_172 ?_
  refine lv_aload_n hx hb d_Cu_followLine_175 rfl (lv_at hl 0 rfl) ?_
  refine kq_get hx hb hts kt_F_Cu hown hK hOc9 rfl 7 (by decide) kt_w106 rfl d_Cu_followLine_176 ?_
  refine lv_aload_n hx hb d_Cu_followLine_179 rfl (lv_at hl 0 rfl) ?_
  refine kq_get hx hb hts kt_F_Cu hown hK hOc9 rfl 7 (by decide) kt_w106 rfl d_Cu_followLine_180 ?_
  refine lv_aload_n hx hb d_Cu_followLine_183 rfl (lv_at hl 0 rfl) ?_
  refine kq_get hx hb hts kt_F_Cu hown hK hOc9 rfl 2 (by decide) kt_w101 rfl d_Cu_followLine_184 ?_
  refine kq_call (va_runV (As := [.ref (hc + 7), .ref (hc + 7), .ref (hc + 2)]) (rest := []) ⟨hx, hb, hml, hown, hts⟩ (c_Pr_product l E h pa ga gw kP G w9 H9 hE hP hW9 (hc + 7) (hc + 7) (hc + 2) (hV.2.2.1 7 (by decide) (by decide)) (Or.inl (hV.2.2.1 7 (by decide) (by decide))) (Or.inl (hV.2.2.1 2 (by decide) (by decide)))) (cwV 3 hts (kt_inV kt_w206 kt_w260 kt_w204 kt_w205 kt_w3) rfl rfl rfl (by decide +kernel) ⟨Nat.le_of_ble_eq_true rfl, Nat.le_of_ble_eq_true rfl⟩) (kq_preV (kr_st E) (hC.1) (kq_recv hC.1.1 hOp9 rfl)) rfl rfl hl.1 rfl (lv_room (Nat.le_of_ble_eq_true rfl)) d_Cu_followLine_187 ⟨Nat.zero_le _, Nat.zero_le _⟩) (fun u10 H10 L10 hq10 hL10 => ?_)
  obtain ⟨rfl, w10, hW10, f10, o10⟩ := hq10
  refine W.eq (g2 := F0 m 190 ls []) rfl ?_
  have hlc10 := t_lL (free := kr_fr h hc) hlc9 (fun q z => by rcases hL10 q z with z | z | z <;> (rw [z]; unfold kr_fr; omega))
  have e10 : w10 (hc + 7) = w3 (hc + 7) * v (hc + 2) % kP := by rw [f10, o9 (hc + 7) (by omega), o8 (hc + 7) (by omega), o7 (hc + 7) (by omega), o6 (hc + 7) (by omega), o5 (hc + 7) (by omega) (by omega) (by omega), o4 (hc + 7) (by omega) (by omega) (by omega), o9 (hc + 2) (by omega), o8 (hc + 2) (by omega), o7 (hc + 2) (by omega), o6 (hc + 2) (by omega), o5 (hc + 2) (by omega) (by omega) (by omega), o4 (hc + 2) (by omega) (by omega) (by omega), o3 (hc + 2) (by omega) (by omega) (by omega), o2 (hc + 2) (by omega) (by omega) (by omega), o1 (hc + 2) (by omega) (by omega) (by omega)]
  have hOc10 := kr_obj hW10 hV.1 hV.2.1
  have hOp10 := kr_obj hW10 hP.1 hP.2.1
  refine lv_aload_n hx hb d_Cu_followLine_190 rfl (lv_at hl 0 rfl) ?_
  refine kq_get hx hb hts kt_F_Cu hown hK hOc10 rfl 0 (by decide) kt_w99 rfl d_Cu_followLine_191 ?_
  refine lv_aload_n hx hb d_Cu_followLine_194 rfl (lv_at hl 0 rfl) ?_
  refine kq_get hx hb hts kt_F_Cu hown hK hOc10 rfl 2 (by decide) kt_w101 rfl d_Cu_followLine_195 ?_
  refine lv_aload_n hx hb d_Cu_followLine_198 rfl (lv_at hl 0 rfl) ?_
  refine kq_get hx hb hts kt_F_Cu hown hK hOc10 rfl 5 (by decide) kt_w104 rfl d_Cu_followLine_199 ?_
  refine lv_aload_n hx hb d_Cu_followLine_202 rfl (lv_at hl 0 rfl) ?_
  refine kq_get hx hb hts kt_F_Cu hown hK hOc10 rfl 8 (by decide) kt_w107 rfl d_Cu_followLine_203 ?_
  refine kq_call (va_runV (As := [.ref (hc + 2), .ref (hc + 5), .ref (hc + 8)]) (rest := []) ⟨hx, hb, hml, hown, hts⟩ (c_Pr_product l E h pa ga gw kP G w10 H10 hE hP hW10 (hc + 2) (hc + 5) (hc + 8) (hV.2.2.1 2 (by decide) (by decide)) (Or.inl (hV.2.2.1 5 (by decide) (by decide))) (Or.inl (hV.2.2.1 8 (by decide) (by decide)))) (cwV 3 hts (kt_inV kt_w206 kt_w260 kt_w204 kt_w205 kt_w3) rfl rfl rfl (by decide +kernel) ⟨Nat.le_of_ble_eq_true rfl, Nat.le_of_ble_eq_true rfl⟩) (kq_preV (kr_st E) (hC.1) (kq_recv hC.1.1 hOp10 rfl)) rfl rfl hl.1 rfl (lv_room (Nat.le_of_ble_eq_true rfl)) d_Cu_followLine_206 ⟨Nat.zero_le _, Nat.zero_le _⟩) (fun u11 H11 L11 hq11 hL11 => ?_)
  obtain ⟨rfl, w11, hW11, f11, o11⟩ := hq11
  refine W.eq (g2 := F0 m 209 ls []) rfl ?_
  have hlc11 := t_lL (free := kr_fr h hc) hlc10 (fun q z => by rcases hL11 q z with z | z | z <;> (rw [z]; unfold kr_fr; omega))
  have e11 : w11 (hc + 2) = v (hc + 5) * w9 (hc + 8) % kP := by rw [f11, o10 (hc + 5) (by omega) (by omega) (by omega), o9 (hc + 5) (by omega), o8 (hc + 5) (by omega), o7 (hc + 5) (by omega), o6 (hc + 5) (by omega), o5 (hc + 5) (by omega) (by omega) (by omega), o4 (hc + 5) (by omega) (by omega) (by omega), o3 (hc + 5) (by omega) (by omega) (by omega), o2 (hc + 5) (by omega) (by omega) (by omega), o1 (hc + 5) (by omega) (by omega) (by omega), o10 (hc + 8) (by omega) (by omega) (by omega)]
  have hOc11 := kr_obj hW11 hV.1 hV.2.1
  have hOp11 := kr_obj hW11 hP.1 hP.2.1
  refine lv_aload_n hx hb d_Cu_followLine_209 rfl (lv_at hl 0 rfl) ?_
  refine kq_get hx hb hts kt_F_Cu hown hK hOc11 rfl 0 (by decide) kt_w99 rfl d_Cu_followLine_210 ?_
  refine lv_aload_n hx hb d_Cu_followLine_213 rfl (lv_at hl 0 rfl) ?_
  refine kq_get hx hb hts kt_F_Cu hown hK hOc11 rfl 2 (by decide) kt_w101 rfl d_Cu_followLine_214 ?_
  refine lv_aload_n hx hb d_Cu_followLine_217 rfl (lv_at hl 0 rfl) ?_
  refine kq_get hx hb hts kt_F_Cu hown hK hOc11 rfl 2 (by decide) kt_w101 rfl d_Cu_followLine_218 ?_
  refine lv_aload_n hx hb d_Cu_followLine_221 rfl (lv_at hl 0 rfl) ?_
  refine kq_get hx hb hts kt_F_Cu hown hK hOc11 rfl 7 (by decide) kt_w106 rfl d_Cu_followLine_222 ?_
  refine kq_call (va_runV (As := [.ref (hc + 2), .ref (hc + 2), .ref (hc + 7)]) (rest := []) ⟨hx, hb, hml, hown, hts⟩ (c_Pr_difference l E h pa ga gw kP G w11 H11 hE hP hW11 (hc + 2) (hc + 2) (hc + 7) (hV.2.2.1 2 (by decide) (by decide)) (Or.inl (hV.2.2.1 2 (by decide) (by decide))) (Or.inl (hV.2.2.1 7 (by decide) (by decide)))) (cwV 3 hts (kt_inV kt_w198 kt_w268 kt_w196 kt_w197 kt_w3) rfl rfl rfl (by decide +kernel) ⟨Nat.le_of_ble_eq_true rfl, Nat.le_of_ble_eq_true rfl⟩) (kq_preV (kr_st E) (hC.1) (kq_recv hC.1.1 hOp11 rfl)) rfl rfl hl.1 rfl (lv_room (Nat.le_of_ble_eq_true rfl)) d_Cu_followLine_225 ⟨Nat.zero_le _, Nat.zero_le _⟩) (fun u12 H12 L12 hq12 hL12 => ?_)
  obtain ⟨rfl, hX12⟩ := hq12
  refine W.eq (g2 := F0 m 228 ls []) rfl ?_
  obtain ⟨w12, f12, o12, hW12⟩ : ∃ w : Nat → Nat, w (hc + 2) = kp_dif kP (w11 (hc + 2)) (w11 (hc + 7)) ∧ (∀ q, q ≠ hc + 2 → w q = w11 q) ∧ kr_W E w H12 := ⟨_, kq_up_at, fun q hq => kq_up_ne hq, hX12⟩
  have hlc12 := t_lL (free := kr_fr h hc) hlc11 (fun q z => by rw [hL12 q z]; unfold kr_fr; omega)
  have e12 : w12 (hc + 2) = kp_dif kP (w11 (hc + 2)) (w10 (hc + 7)) := by rw [f12, o11 (hc + 7) (by omega) (by omega) (by omega)]
  have hOc12 := kr_obj hW12 hV.1 hV.2.1
  have hOp12 := kr_obj hW12 hP.1 hP.2.1
  have hrep2 := kc_rep_follow hrep hbx hby g1 g2 hrl hr0 hne e1 e2 e3 e4 e5 e6 e7 e8 e9 e10 e11 e12
  refine W.vret hx hb hret (fun t ht _ => ⟨_, rfl, rfl, w12, by rw [ht]; exact hW12, ?_, fun q hq => by
        have hq1 := hq
        unfold kr_fr at hq1
        rw [o12 q (by omega), o11 q (by omega) (by omega) (by omega), o10 q (by omega) (by omega) (by omega), o9 q (by omega), o8 q (by omega), o7 q (by omega), o6 q (by omega), o5 q (by omega) (by omega) (by omega), o4 q (by omega) (by omega) (by omega), o3 q (by omega) (by omega) (by omega), o2 q (by omega) (by omega) (by omega), o1 q (by omega) (by omega) (by omega)]⟩) hlc12 d_Cu_followLine_228
  rw [o12 (hc + 1) (by omega), o11 (hc + 1) (by omega) (by omega) (by omega), o10 (hc + 1) (by omega) (by omega) (by omega), o9 (hc + 1) (by omega), o12 (hc + 3) (by omega), o11 (hc + 3) (by omega) (by omega) (by omega), o10 (hc + 3) (by omega) (by omega) (by omega), o9 (hc + 3) (by omega), o8 (hc + 3) (by omega), o7 (hc + 3) (by omega), o6 (hc + 3) (by omega), o5 (hc + 3) (by omega) (by omega) (by omega), o4 (hc + 3) (by omega) (by omega) (by omega), o3 (hc + 3) (by omega) (by omega) (by omega), o2 (hc + 3) (by omega) (by omega) (by omega)]
  exact hrep2
theorem d_Cu_join_0 : decode b_Cu_join 0 = .ok (.aload_n 1, 1) := by decide +kernel
theorem d_Cu_join_1 : decode b_Cu_join 1 = .ok (.getfield 122, 3) := by decide +kernel
theorem d_Cu_join_4 : decode b_Cu_join 4 = .ok (.ifCond .eq 4, 3) := by decide +kernel
theorem d_Cu_join_7 : decode b_Cu_join 7 = .ok (.return_, 1) := by decide +kernel
theorem d_Cu_join_8 : decode b_Cu_join 8 = .ok (.aload_n 0, 1) := by decide +kernel
theorem d_Cu_join_9 : decode b_Cu_join 9 = .ok (.getfield 18, 3) := by decide +kernel
theorem d_Cu_join_12 : decode b_Cu_join 12 = .ok (.invokestatic 126, 3) := by decide +kernel
theorem d_Cu_join_15 : decode b_Cu_join 15 = .ok (.ifCond .eq 36, 3) := by decide +kernel
theorem d_Cu_join_18 : decode b_Cu_join 18 = .ok (.aload_n 0, 1) := by decide +kernel
theorem d_Cu_join_19 : decode b_Cu_join 19 = .ok (.getfield 9, 3) := by decide +kernel
theorem d_Cu_join_22 : decode b_Cu_join 22 = .ok (.aload_n 1, 1) := by decide +kernel
theorem d_Cu_join_23 : decode b_Cu_join 23 = .ok (.getfield 129, 3) := by decide +kernel
theorem d_Cu_join_26 : decode b_Cu_join 26 = .ok (.invokestatic 49, 3) := by decide +kernel
theorem d_Cu_join_29 : decode b_Cu_join 29 = .ok (.aload_n 0, 1) := by decide +kernel
theorem d_Cu_join_30 : decode b_Cu_join 30 = .ok (.getfield 15, 3) := by decide +kernel
theorem d_Cu_join_33 : decode b_Cu_join 33 = .ok (.aload_n 1, 1) := by decide +kernel
theorem d_Cu_join_34 : decode b_Cu_join 34 = .ok (.getfield 130, 3) := by decide +kernel
theorem d_Cu_join_37 : decode b_Cu_join 37 = .ok (.invokestatic 49, 3) := by decide +kernel
theorem d_Cu_join_40 : decode b_Cu_join 40 = .ok (.aload_n 0, 1) := by decide +kernel
theorem d_Cu_join_41 : decode b_Cu_join 41 = .ok (.getfield 18, 3) := by decide +kernel
theorem d_Cu_join_44 : decode b_Cu_join 44 = .ok (.getstatic 105, 3) := by decide +kernel
theorem d_Cu_join_47 : decode b_Cu_join 47 = .ok (.invokestatic 49, 3) := by decide +kernel
theorem d_Cu_join_50 : decode b_Cu_join 50 = .ok (.return_, 1) := by decide +kernel
theorem d_Cu_join_51 : decode b_Cu_join 51 = .ok (.aload_n 0, 1) := by decide +kernel
theorem d_Cu_join_52 : decode b_Cu_join 52 = .ok (.aload_n 1, 1) := by decide +kernel
theorem d_Cu_join_53 : decode b_Cu_join 53 = .ok (.invokevirtual 131, 3) := by decide +kernel
theorem d_Cu_join_56 : decode b_Cu_join 56 = .ok (.aload_n 0, 1) := by decide +kernel
theorem d_Cu_join_57 : decode b_Cu_join 57 = .ok (.getfield 21, 3) := by decide +kernel
theorem d_Cu_join_60 : decode b_Cu_join 60 = .ok (.invokestatic 126, 3) := by decide +kernel
theorem d_Cu_join_63 : decode b_Cu_join 63 = .ok (.ifCond .ne 10, 3) := by decide +kernel
theorem d_Cu_join_66 : decode b_Cu_join 66 = .ok (.aload_n 0, 1) := by decide +kernel
theorem d_Cu_join_67 : decode b_Cu_join 67 = .ok (.invokevirtual 134, 3) := by decide +kernel
theorem d_Cu_join_70 : decode b_Cu_join 70 = .ok (.goto 24, 3) := by decide +kernel
theorem d_Cu_join_73 : decode b_Cu_join 73 = .ok (.aload_n 0, 1) := by decide +kernel
theorem d_Cu_join_74 : decode b_Cu_join 74 = .ok (.getfield 24, 3) := by decide +kernel
theorem d_Cu_join_77 : decode b_Cu_join 77 = .ok (.invokestatic 126, 3) := by decide +kernel
theorem d_Cu_join_80 : decode b_Cu_join 80 = .ok (.ifCond .eq 10, 3) := by decide +kernel
theorem d_Cu_join_83 : decode b_Cu_join 83 = .ok (.aload_n 0, 1) := by decide +kernel
theorem d_Cu_join_84 : decode b_Cu_join 84 = .ok (.invokevirtual 111, 3) := by decide +kernel
theorem d_Cu_join_87 : decode b_Cu_join 87 = .ok (.goto 7, 3) := by decide +kernel
theorem d_Cu_join_90 : decode b_Cu_join 90 = .ok (.aload_n 0, 1) := by decide +kernel
theorem d_Cu_join_91 : decode b_Cu_join 91 = .ok (.invokevirtual 108, 3) := by decide +kernel
theorem d_Cu_join_94 : decode b_Cu_join 94 = .ok (.return_, 1) := by decide +kernel
set_option maxHeartbeats 4000000 in
set_option maxRecDepth 100000 in
theorem c_Cu_join (l : Launch) (E : kr_E) (A : Nat → Nat) (h pa ga gw G hc sp : Nat) (v : Nat → Nat) (H : Heap) (hE : kr_ok E) (hA : kr_A E A) (hP : kr_P E h pa ga gw kP G) (hV : kr_V E hc h) (hW : kr_W E v H) (b : Bool) (hS : kr_Sp E sp b) (hsp : sp + 2 < h) (o : Option (Nat × Nat)) (hrep : kc_rep o (v (hc + 1)) (v (hc + 2)) (v (hc + 3))) (hbp : b = false → v (sp + 1) < kP ∧ v (sp + 2) < kP) : Met l y_Cu_join w_Cu_join ({ frames := 4, cells := 0, slots := 0, locals := 96 }) (kq_P [.ref hc, .ref sp] H (kr_C E A)) (kq_Q (fun o1 H1 => o1 = none ∧ ∃ w : Nat → Nat, kr_W E w H1 ∧ kc_rep (if b = true then o else kc_join o (v (sp + 1)) (v (sp + 2))) (w (hc + 1)) (w (hc + 2)) (w (hc + 3)) ∧ ∀ q, ¬ kr_fr h hc q → w q = v q)) 0 0 (kr_fr h hc) := by
  refine Met.ofW (cc := b_Cu_join) (maxL := 2) (ret := none) (by decide) rfl ?_
  intro p e s m args below meth c s₁ B0 hml hv
  obtain ⟨rfl, hH, hC⟩ := hv
  have hx := B0.exec
  have hb := B0.bytes
  have hret := B0.returns
  have hts := atoms_spec (ws := w_Cu_join) B0.pre
  have hown : s.vm.findClass R_Cu = some m.cls := findClass_of_methodNamed B0.named
  have hlocks := B0.notSynchronized
  rw [hH]
  have hl := lv_entry ([.ref hc, .ref sp]) (n := 2) (Nat.le_of_ble_eq_true rfl)
  rw [lg_entry_eq]
  generalize (lg_sl ([.ref hc, .ref sp]) ++ List.replicate (2 - (lg_sl ([.ref hc, .ref sp])).length) Slot.unset).toArray = ls at hl ⊢
  have hl : lv_has ls 2 [(0, .ref hc), (1, .ref sp)] := hl
  have hB := hC.1
  have hT := kr_T hE hB
  have hK := hB.1
  have hhc := hV.2.2.2
  have hlc0 : ∀ q ∈ ([] : List Loc), kr_fr h hc q.base := fun q h => by cases h
  have hO := kr_obj hW hV.1 hV.2.1
  have hOs := kr_obj hW hS.1 hS.2.1
  have h1 := hV.2.2.1 1 (by decide) (by decide)
  have h2 := hV.2.2.1 2 (by decide) (by decide)
  have h3 := hV.2.2.1 3 (by decide) (by decide)
  have h4 := hV.2.2.1 4 (by decide) (by decide)
  have h5 := hV.2.2.1 5 (by decide) (by decide)
  have hsz := kr_src hE hW hB (Or.inl h3)
  have hlz := kr_lt hE hW (Or.inl h3)
  have hsx := kr_src hE hW hB (Or.inl hS.2.2.1)
  have hlx := kr_lt hE hW (Or.inl hS.2.2.1)
  refine lv_aload_n hx hb d_Cu_join_0 rfl (lv_at hl 1 rfl) ?_
  refine kq_get hx hb hts kt_F_Sp hown hK hOs rfl 2 (by decide) kt_w33 rfl d_Cu_join_1 ?_
  refine lv_if_eq hx hb d_Cu_join_4 rfl (fun hc0 => ?_) (fun hc0 => ?_)
  · have hb0 := kq_z_b0 hc0
    obtain ⟨hbx, hby⟩ := hbp hb0
    subst hb0
    refine lv_aload_n hx hb d_Cu_join_8 rfl (lv_at hl 0 rfl) ?_
    refine kq_get hx hb hts kt_F_Cu hown hK hO rfl 3 (by decide) kt_w102 rfl d_Cu_join_9 ?_
    refine kq_call (va_runS (As := [.ref (hc + 3)]) (rest := []) ⟨hx, hb, hml, hown, hts⟩ (c_Wo_isZero l H (hc + 3) (v (hc + 3)) hlz) (va_cwS 1 hts (kt_inS kt_w236 kt_w329 kt_w235 kt_w6) rfl rfl rfl (by decide +kernel) ⟨Nat.le_of_ble_eq_true rfl, Nat.le_of_ble_eq_true rfl⟩) (kq_preS (kq_st_r) (hsz)) rfl rfl hl.1 rfl (lv_room (Nat.le_of_ble_eq_true rfl)) d_Cu_join_12 ⟨Nat.zero_le _, Nat.zero_le _⟩) (fun v9 H9 L9 hq9 hL9 => ?_)
    obtain ⟨rfl, e9⟩ := hq9
    rw [e9]
    clear e9
    refine W.eq (g2 := F0 m 15 ls [.int (kq_z (decide (v (hc + 3) = 0)))]) rfl ?_
    have hlc1 := t_lL (free := kr_fr h hc) hlc0 (fun q z => (hL9 q z).elim)
    refine lv_if_eq hx hb d_Cu_join_15 rfl (fun hc1 => ?_) (fun hc1 => ?_)
    · have hz : v (hc + 3) ≠ 0 := kq_z_eq.mp hc1
      obtain ⟨q0, rfl⟩ := kc_rep_nz hrep hz
      refine lv_aload_n hx hb d_Cu_join_51 rfl (lv_at hl 0 rfl) ?_
      refine lv_aload_n hx hb d_Cu_join_52 rfl (lv_at hl 1 rfl) ?_
      refine kq_call (va_runV (As := [.ref sp]) (rest := []) ⟨hx, hb, hml, hown, hts⟩ (c_Cu_measureLine l E A h pa ga gw G hc sp v H hE hA hP hV hW false hS hsp q0 hrep hbx hby) (cwV 1 hts (kt_inV kt_w333 kt_w330 kt_w332 kt_s7 kt_w4) rfl rfl rfl (by decide +kernel) ⟨Nat.le_of_ble_eq_true rfl, Nat.le_of_ble_eq_true rfl⟩) (kq_p2V (kr_C_s2 E A) (hC) (kq_recv hC.1.1 hO rfl)) rfl rfl hl.1 rfl (lv_room (Nat.le_of_ble_eq_true rfl)) d_Cu_join_53 ⟨Nat.zero_le _, Nat.zero_le _⟩) (fun u2 H2 L2 hq2 hL2 => ?_)
      obtain ⟨rfl, w2, hW2, ⟨x1, x2, x3⟩, ⟨g1, g2⟩, z4, z5, hrl, k2⟩ := hq2
      refine W.eq (g2 := F0 m 56 ls []) rfl ?_
      have hlc2 := t_lL (free := kr_fr h hc) hlc1 hL2
      have hO2 := kr_obj hW2 hV.1 hV.2.1
      have hsr := kr_src hE hW2 hB (Or.inl h4)
      have hlr := kr_lt hE hW2 (Or.inl h4)
      have hss := kr_src hE hW2 hB (Or.inl h5)
      have hls := kr_lt hE hW2 (Or.inl h5)
      have hrep2 : kc_rep (some q0) (w2 (hc + 1)) (w2 (hc + 2)) (w2 (hc + 3)) := by rw [x1, x2, x3]; exact hrep
      refine lv_aload_n hx hb d_Cu_join_56 rfl (lv_at hl 0 rfl) ?_
      refine kq_get hx hb hts kt_F_Cu hown hK hO2 rfl 4 (by decide) kt_w103 rfl d_Cu_join_57 ?_
      refine kq_call (va_runS (As := [.ref (hc + 4)]) (rest := []) ⟨hx, hb, hml, hown, hts⟩ (c_Wo_isZero l H2 (hc + 4) (w2 (hc + 4)) hlr) (va_cwS 1 hts (kt_inS kt_w236 kt_w329 kt_w235 kt_w6) rfl rfl rfl (by decide +kernel) ⟨Nat.le_of_ble_eq_true rfl, Nat.le_of_ble_eq_true rfl⟩) (kq_preS (kq_st_r) (hsr)) rfl rfl hl.1 rfl (lv_room (Nat.le_of_ble_eq_true rfl)) d_Cu_join_60 ⟨Nat.zero_le _, Nat.zero_le _⟩) (fun u3 H3 L3 hq3 hL3 => ?_)
      obtain ⟨rfl, e9⟩ := hq3
      rw [e9]
      clear e9
      refine W.eq (g2 := F0 m 63 ls [.int (kq_z (decide (w2 (hc + 4) = 0)))]) rfl ?_
      have hlc3 := t_lL (free := kr_fr h hc) hlc2 (fun q z => (hL3 q z).elim)
      refine lv_if_ne hx hb d_Cu_join_63 rfl (fun hc2 => ?_) (fun hc2 => ?_)
      · have hr0 : w2 (hc + 4) = 0 := kq_z_ne.mp hc2
        have hq1 := z4.mp hr0
        refine lv_aload_n hx hb d_Cu_join_73 rfl (lv_at hl 0 rfl) ?_
        refine kq_get hx hb hts kt_F_Cu hown hK hO2 rfl 5 (by decide) kt_w104 rfl d_Cu_join_74 ?_
        refine kq_call (va_runS (As := [.ref (hc + 5)]) (rest := []) ⟨hx, hb, hml, hown, hts⟩ (c_Wo_isZero l H2 (hc + 5) (w2 (hc + 5)) hls) (va_cwS 1 hts (kt_inS kt_w236 kt_w329 kt_w235 kt_w6) rfl rfl rfl (by decide +kernel) ⟨Nat.le_of_ble_eq_true rfl, Nat.le_of_ble_eq_true rfl⟩) (kq_preS (kq_st_r) (hss)) rfl rfl hl.1 rfl (lv_room (Nat.le_of_ble_eq_true rfl)) d_Cu_join_77 ⟨Nat.zero_le _, Nat.zero_le _⟩) (fun u4 H4 L4 hq4 hL4 => ?_)
        obtain ⟨rfl, e9⟩ := hq4
        rw [e9]
        clear e9
        refine W.eq (g2 := F0 m 80 ls [.int (kq_z (decide (w2 (hc + 5) = 0)))]) rfl ?_
        have hlc4 := t_lL (free := kr_fr h hc) hlc3 (fun q z => (hL4 q z).elim)
        refine lv_if_eq hx hb d_Cu_join_80 rfl (fun hc3 => ?_) (fun hc3 => ?_)
        · have hs0 : ¬ w2 (hc + 5) = 0 := kq_z_eq.mp hc3
          refine lv_aload_n hx hb d_Cu_join_90 rfl (lv_at hl 0 rfl) ?_
          refine kq_call (va_runV (As := []) (rest := []) ⟨hx, hb, hml, hown, hts⟩ (c_Cu_start l E A h pa ga gw G hc w2 H2 hE hA hP hV hW2) (cwV 0 hts (kt_inV kt_w323 kt_w342 kt_w321 kt_w322 kt_w4) rfl rfl rfl (by decide +kernel) ⟨Nat.le_of_ble_eq_true rfl, Nat.le_of_ble_eq_true rfl⟩) (kq_p2V (kr_C_s2 E A) (hC) (kq_recv hC.1.1 hO2 rfl)) rfl rfl hl.1 rfl (lv_room (Nat.le_of_ble_eq_true rfl)) d_Cu_join_91 ⟨Nat.zero_le _, Nat.zero_le _⟩) (fun u5 H5 L5 hq5 hL5 => ?_)
          obtain ⟨rfl, w5, hW5, z0, k5⟩ := hq5
          refine W.eq (g2 := F0 m 94 ls []) rfl ?_
          refine W.vret hx hb hret (fun t ht _ => ⟨_, rfl, rfl, w5, by rw [ht]; exact hW5, ?_, fun q hq => by rw [k5 q hq]; exact k2 q hq⟩) (t_lL (free := kr_fr h hc) hlc4 hL5) d_Cu_join_94
          have hj : kc_join (some q0) (v (sp + 1)) (v (sp + 2)) = none := by rw [kc_join_some, if_pos hq1, if_neg (fun q => hs0 (z5.mpr q))]
          rw [if_neg (by decide), hj, z0]
          exact kc_rep_none _ _
        · have hs0 : w2 (hc + 5) = 0 := kq_z_ne.mp hc3
          refine lv_aload_n hx hb d_Cu_join_83 rfl (lv_at hl 0 rfl) ?_
          refine kq_call (va_runV (As := []) (rest := []) ⟨hx, hb, hml, hown, hts⟩ (c_Cu_twice l E A h pa ga gw G hc w2 H2 hE hA hP hV hW2 (some q0) hrep2) (cwV 0 hts (kt_inV kt_w341 kt_w338 kt_w340 kt_s9 kt_w4) rfl rfl rfl (by decide +kernel) ⟨Nat.le_of_ble_eq_true rfl, Nat.le_of_ble_eq_true rfl⟩) (kq_p2V (kr_C_s2 E A) (hC) (kq_recv hC.1.1 hO2 rfl)) rfl rfl hl.1 rfl (lv_room (Nat.le_of_ble_eq_true rfl)) d_Cu_join_84 ⟨Nat.zero_le _, Nat.zero_le _⟩) (fun u5 H5 L5 hq5 hL5 => ?_)
          obtain ⟨rfl, w5, hW5, z0, k5⟩ := hq5
          refine W.eq (g2 := F0 m 87 ls []) rfl ?_
          refine lv_goto hx hb d_Cu_join_87 rfl ?_
          refine W.vret hx hb hret (fun t ht _ => ⟨_, rfl, rfl, w5, by rw [ht]; exact hW5, ?_, fun q hq => by rw [k5 q hq]; exact k2 q hq⟩) (t_lL (free := kr_fr h hc) hlc4 hL5) d_Cu_join_94
          have hj : kc_join (some q0) (v (sp + 1)) (v (sp + 2)) = kc_twice (some q0) := by rw [kc_join_some, if_pos hq1, if_pos (z5.mp hs0)]
          rw [if_neg (by decide), hj]
          exact z0
      · have hr0 : w2 (hc + 4) ≠ 0 := kq_z_eq.mp hc2
        refine lv_aload_n hx hb d_Cu_join_66 rfl (lv_at hl 0 rfl) ?_
        refine kq_call (va_runV (As := []) (rest := []) ⟨hx, hb, hml, hown, hts⟩ (c_Cu_followLine l E A h pa ga gw G hc w2 H2 hE hA hP hV hW2 q0 (v (sp + 1)) (v (sp + 2)) hrep2 hbx hby (by rw [x1, x3]; exact g1) (by rw [x2, x3]; exact g2) hrl hr0 (fun q => hr0 (z4.mpr q))) (cwV 0 hts (kt_inV kt_w337 kt_w334 kt_w336 kt_s8 kt_w4) rfl rfl rfl (by decide +kernel) ⟨Nat.le_of_ble_eq_true rfl, Nat.le_of_ble_eq_true rfl⟩) (kq_p2V (kr_C_s2 E A) (hC) (kq_recv hC.1.1 hO2 rfl)) rfl rfl hl.1 rfl (lv_room (Nat.le_of_ble_eq_true rfl)) d_Cu_join_67 ⟨Nat.zero_le _, Nat.zero_le _⟩) (fun u5 H5 L5 hq5 hL5 => ?_)
        obtain ⟨rfl, w5, hW5, z0, k5⟩ := hq5
        refine W.eq (g2 := F0 m 70 ls []) rfl ?_
        refine lv_goto hx hb d_Cu_join_70 rfl ?_
        refine W.vret hx hb hret (fun t ht _ => ⟨_, rfl, rfl, w5, by rw [ht]; exact hW5, ?_, fun q hq => by rw [k5 q hq]; exact k2 q hq⟩) (t_lL (free := kr_fr h hc) hlc3 hL5) d_Cu_join_94
        rw [if_neg (by decide)]
        exact z0
    · have hz : v (hc + 3) = 0 := kq_z_ne.mp hc1
      have ho := kc_rep_zero hrep hz
      subst ho
      refine lv_aload_n hx hb d_Cu_join_18 rfl (lv_at hl 0 rfl) ?_
      refine kq_get hx hb hts kt_F_Cu hown hK hO rfl 1 (by decide) kt_w100 rfl d_Cu_join_19 ?_
      refine lv_aload_n hx hb d_Cu_join_22 rfl (lv_at hl 1 rfl) ?_
      refine kq_get hx hb hts kt_F_Sp hown hK hOs rfl 0 (by decide) kt_w27 rfl d_Cu_join_23 ?_
      refine kq_call (va_runS (As := [.ref (hc + 1), .ref (sp + 1)]) (rest := []) ⟨hx, hb, hml, hown, hts⟩ (c_Wo_copy l (kr_c E) H (hc + 1) (sp + 1) (v (hc + 1)) (v (sp + 1)) (kr_row hW h1)) (va_cwS 2 hts (kt_inS kt_w222 kt_w255 kt_w221 kt_w6) rfl rfl rfl (by decide +kernel) ⟨Nat.le_of_ble_eq_true rfl, Nat.le_of_ble_eq_true rfl⟩) (kq_preS (kq_st_A.both kq_st_r) (⟨hT, hsx⟩)) rfl rfl hl.1 rfl (lv_room (Nat.le_of_ble_eq_true rfl)) d_Cu_join_26 ⟨Nat.zero_le _, Nat.zero_le _⟩) (fun u2 H2 L2 hq2 hL2 => ?_)
      obtain ⟨rfl, rfl⟩ := hq2
      refine W.eq (g2 := F0 m 29 ls []) rfl ?_
      have hW2 := kr_put hE hW h1 hlx
      have hO2 := kr_obj hW2 hV.1 hV.2.1
      have hOs2 := kr_obj hW2 hS.1 hS.2.1
      have hsy := kr_src hE hW2 hB (Or.inl hS.2.2.2)
      have hly := kr_lt hE hW2 (Or.inl hS.2.2.2)
      rw [kq_up_ne (show sp + 2 ≠ hc + 1 by omega)] at hsy hly
      refine lv_aload_n hx hb d_Cu_join_29 rfl (lv_at hl 0 rfl) ?_
      refine kq_get hx hb hts kt_F_Cu hown hK hO2 rfl 2 (by decide) kt_w101 rfl d_Cu_join_30 ?_
      refine lv_aload_n hx hb d_Cu_join_33 rfl (lv_at hl 1 rfl) ?_
      refine kq_get hx hb hts kt_F_Sp hown hK hOs2 rfl 1 (by decide) kt_w30 rfl d_Cu_join_34 ?_
      refine kq_call (va_runS (As := [.ref (hc + 2), .ref (sp + 2)]) (rest := []) ⟨hx, hb, hml, hown, hts⟩ (c_Wo_copy l (kr_c E) _ (hc + 2) (sp + 2) _ (v (sp + 2)) (kr_row hW2 h2)) (va_cwS 2 hts (kt_inS kt_w222 kt_w255 kt_w221 kt_w6) rfl rfl rfl (by decide +kernel) ⟨Nat.le_of_ble_eq_true rfl, Nat.le_of_ble_eq_true rfl⟩) (kq_preS (kq_st_A.both kq_st_r) (⟨hT, hsy⟩)) rfl rfl hl.1 rfl (lv_room (Nat.le_of_ble_eq_true rfl)) d_Cu_join_37 ⟨Nat.zero_le _, Nat.zero_le _⟩) (fun u3 H3 L3 hq3 hL3 => ?_)
      obtain ⟨rfl, rfl⟩ := hq3
      refine W.eq (g2 := F0 m 40 ls []) rfl ?_
      have hW3 := kr_put hE hW2 h2 hly
      have hO3 := kr_obj hW3 hV.1 hV.2.1
      have hs1 := kr_src hE hW3 hB (Or.inr hA.2.1.1)
      rw [kr_cst hW3 hA.2.1] at hs1
      refine lv_aload_n hx hb d_Cu_join_40 rfl (lv_at hl 0 rfl) ?_
      refine kq_get hx hb hts kt_F_Cu hown hK hO3 rfl 3 (by decide) kt_w102 rfl d_Cu_join_41 ?_
      refine kq_getsN hx hb (kr_zat hW3 hC.2.2.2.1) hown hC.2.1.2.2.2.2 d_Cu_join_44 ?_
      refine kq_call (va_runS (As := [.ref (hc + 3), .ref (A 1)]) (rest := []) ⟨hx, hb, hml, hown, hts⟩ (c_Wo_copy l (kr_c E) _ (hc + 3) (A 1) _ 1 (kr_row hW3 h3)) (va_cwS 2 hts (kt_inS kt_w222 kt_w255 kt_w221 kt_w6) rfl rfl rfl (by decide +kernel) ⟨Nat.le_of_ble_eq_true rfl, Nat.le_of_ble_eq_true rfl⟩) (kq_preS (kq_st_A.both kq_st_r) (⟨hT, hs1⟩)) rfl rfl hl.1 rfl (lv_room (Nat.le_of_ble_eq_true rfl)) d_Cu_join_47 ⟨Nat.zero_le _, Nat.zero_le _⟩) (fun u4 H4 L4 hq4 hL4 => ?_)
      obtain ⟨rfl, rfl⟩ := hq4
      refine W.eq (g2 := F0 m 50 ls []) rfl ?_
      have hW4 := kr_put hE hW3 h3 (show 1 < kw_M 8 by decide +kernel)
      have hlf := t_lL (free := kr_fr h hc) (t_lL (free := kr_fr h hc) (t_lL (free := kr_fr h hc) hlc1 (fun q z => by rw [hL2 q z]; unfold kr_fr; omega)) (fun q z => by rw [hL3 q z]; unfold kr_fr; omega)) (fun q z => by rw [hL4 q z]; unfold kr_fr; omega)
      refine W.vret hx hb hret (fun t ht _ => ⟨_, rfl, rfl, _, by rw [ht]; exact hW4, ?_, fun q hq => ?_⟩) hlf d_Cu_join_50
      · rw [kq_up_ne (show hc + 1 ≠ hc + 3 by omega), kq_up_ne (show hc + 1 ≠ hc + 2 by omega), kq_up_at, kq_up_ne (show hc + 2 ≠ hc + 3 by omega), kq_up_at, kq_up_at, if_neg (by decide)]
        exact kc_rep_one hbx hby
      · unfold kr_fr at hq
        rw [kq_up_ne (by omega), kq_up_ne (by omega), kq_up_ne (by omega)]
  · have hb1 := kq_z_b1 hc0
    exact W.vret hx hb hret (fun t ht _ => ⟨_, rfl, rfl, v, by rw [ht]; exact hW, by rw [if_pos hb1]; exact hrep, fun _ _ => rfl⟩) hlc0 d_Cu_join_7
