/-! KeyCurve: plus, times (own rows). -/
def kc_sum2 (ba : Bool) (xa ya : Nat) (bb : Bool) (xb yb : Nat) : Option (Nat × Nat) := if bb = true then (if ba = true then none else kc_join none xa ya) else kc_join (if ba = true then none else kc_join none xa ya) xb yb
theorem d_Ke_plus_0 : decode b_Ke_plus 0 = .ok (.aload_n 0, 1) := by decide +kernel
theorem d_Ke_plus_1 : decode b_Ke_plus 1 = .ok (.getfield 51, 3) := by decide +kernel
theorem d_Ke_plus_4 : decode b_Ke_plus 4 = .ok (.invokevirtual 107, 3) := by decide +kernel
theorem d_Ke_plus_7 : decode b_Ke_plus 7 = .ok (.aload_n 0, 1) := by decide +kernel
theorem d_Ke_plus_8 : decode b_Ke_plus 8 = .ok (.getfield 51, 3) := by decide +kernel
theorem d_Ke_plus_11 : decode b_Ke_plus 11 = .ok (.aload_n 0, 1) := by decide +kernel
theorem d_Ke_plus_12 : decode b_Ke_plus 12 = .ok (.iload_n 2, 1) := by decide +kernel
theorem d_Ke_plus_13 : decode b_Ke_plus 13 = .ok (.invokevirtual 82, 3) := by decide +kernel
theorem d_Ke_plus_16 : decode b_Ke_plus 16 = .ok (.invokevirtual 110, 3) := by decide +kernel
theorem d_Ke_plus_19 : decode b_Ke_plus 19 = .ok (.aload_n 0, 1) := by decide +kernel
theorem d_Ke_plus_20 : decode b_Ke_plus 20 = .ok (.getfield 51, 3) := by decide +kernel
theorem d_Ke_plus_23 : decode b_Ke_plus 23 = .ok (.aload_n 0, 1) := by decide +kernel
theorem d_Ke_plus_24 : decode b_Ke_plus 24 = .ok (.iload_n 3, 1) := by decide +kernel
theorem d_Ke_plus_25 : decode b_Ke_plus 25 = .ok (.invokevirtual 82, 3) := by decide +kernel
theorem d_Ke_plus_28 : decode b_Ke_plus 28 = .ok (.invokevirtual 110, 3) := by decide +kernel
theorem d_Ke_plus_31 : decode b_Ke_plus 31 = .ok (.aload_n 0, 1) := by decide +kernel
theorem d_Ke_plus_32 : decode b_Ke_plus 32 = .ok (.getfield 51, 3) := by decide +kernel
theorem d_Ke_plus_35 : decode b_Ke_plus 35 = .ok (.aload_n 0, 1) := by decide +kernel
theorem d_Ke_plus_36 : decode b_Ke_plus 36 = .ok (.iload_n 1, 1) := by decide +kernel
theorem d_Ke_plus_37 : decode b_Ke_plus 37 = .ok (.invokevirtual 82, 3) := by decide +kernel
theorem d_Ke_plus_40 : decode b_Ke_plus 40 = .ok (.invokevirtual 114, 3) := by decide +kernel
theorem d_Ke_plus_43 : decode b_Ke_plus 43 = .ok (.return_, 1) := by decide +kernel
set_option maxHeartbeats 4000000 in
set_option maxRecDepth 100000 in
theorem c_Ke_plus (l : Launch) (E : kr_E) (A : Nat → Nat) (o : Nat) (bs : Nat → Bool) (v : Nat → Nat) (H : Heap) (hE : kr_ok E) (hA : kr_A E A) (hO : kr_O E A o bs) (hW : kr_W E v H) (hlow : ∀ j, j < 4 → bs j = false → v (o + 7 + 3 * j + 1) < kP ∧ v (o + 7 + 3 * j + 2) < kP) (q a b : Int32) : Met l y_Ke_plus w_Ke_plus ({ frames := 6, cells := 0, slots := 0, locals := 142 }) (kq_P [.ref o, .int q, .int a, .int b] H (kr_K E A o)) (kq_Q (fun o1 H1 => o1 = none ∧ ∃ w : Nat → Nat, kr_Wb E (o + 7 + 3 * kx3 q) (kc_sum2 (bs (kx3 a)) (v (o + 7 + 3 * kx3 a + 1)) (v (o + 7 + 3 * kx3 a + 2)) (bs (kx3 b)) (v (o + 7 + 3 * kx3 b + 1)) (v (o + 7 + 3 * kx3 b + 2))).isNone w H1 ∧ (∀ q0, kc_sum2 (bs (kx3 a)) (v (o + 7 + 3 * kx3 a + 1)) (v (o + 7 + 3 * kx3 a + 2)) (bs (kx3 b)) (v (o + 7 + 3 * kx3 b + 1)) (v (o + 7 + 3 * kx3 b + 2)) = some q0 → w (o + 7 + 3 * kx3 q + 1) = q0.1 ∧ w (o + 7 + 3 * kx3 q + 2) = q0.2) ∧ (kc_sum2 (bs (kx3 a)) (v (o + 7 + 3 * kx3 a + 1)) (v (o + 7 + 3 * kx3 a + 2)) (bs (kx3 b)) (v (o + 7 + 3 * kx3 b + 1)) (v (o + 7 + 3 * kx3 b + 2)) = none → w (o + 7 + 3 * kx3 q + 1) = v (o + 7 + 3 * kx3 q + 1) ∧ w (o + 7 + 3 * kx3 q + 2) = v (o + 7 + 3 * kx3 q + 2)) ∧ ∀ x, x ≠ o + 7 + 3 * kx3 q + 1 → x ≠ o + 7 + 3 * kx3 q + 2 → ¬ kr_fr (o + 19) (o + 33) x → w x = v x)) 0 0 (fun x => x = o + 7 + 3 * kx3 q ∨ x = o + 7 + 3 * kx3 q + 1 ∨ x = o + 7 + 3 * kx3 q + 2 ∨ kr_fr (o + 19) (o + 33) x) := by
  refine Met.ofW (cc := b_Ke_plus) (maxL := 4) (ret := none) (by decide) rfl ?_
  intro p e s m args below meth c s₁ B0 hml hv
  obtain ⟨rfl, hH, hKK⟩ := hv
  have hx := B0.exec
  have hb := B0.bytes
  have hret := B0.returns
  have hts := atoms_spec (ws := w_Ke_plus) B0.pre
  have hown : s.vm.findClass R_Ke = some m.cls := findClass_of_methodNamed B0.named
  have hlocks := B0.notSynchronized
  rw [hH]
  have hl := lv_entry ([.ref o, .int q, .int a, .int b]) (n := 4) (Nat.le_of_ble_eq_true rfl)
  rw [lg_entry_eq]
  generalize (lg_sl ([.ref o, .int q, .int a, .int b]) ++ List.replicate (4 - (lg_sl ([.ref o, .int q, .int a, .int b])).length) Slot.unset).toArray = ls at hl ⊢
  have hl : lv_has ls 4 [(0, .ref o), (1, .int q), (2, .int a), (3, .int b)] := hl
  have hB := hKK.1.1
  have hT := kr_T hE hB
  have hK := hB.1
  have hOo := kr_obj hW hO.1 hO.2.1
  have hV := hO.2.2.2.2.2.1
  have hP := hO.2.2.2.1
  have hSq := hO.2.2.2.2.2.2.2 (kx3 q) (kx3_lt q)
  have hSa := hO.2.2.2.2.2.2.2 (kx3 a) (kx3_lt a)
  have hla := hlow (kx3 a) (kx3_lt a)
  have l1 := kx3_lt q
  have l2 := kx3_lt a
  have hOc := kr_obj hW hV.1 hV.2.1
  have hSb := hO.2.2.2.2.2.2.2 (kx3 b) (kx3_lt b)
  have hlb := hlow (kx3 b) (kx3_lt b)
  have l3 := kx3_lt b
  refine lv_aload_n hx hb d_Ke_plus_0 rfl (lv_at hl 0 rfl) ?_
  refine kq_get hx hb hts kt_F_Ke hown hK hOo rfl 4 (by decide) kt_w140 rfl d_Ke_plus_1 ?_
  refine kq_call (va_runV (As := []) (rest := []) ⟨hx, hb, hml, hown, hts⟩ (c_Cu_start l E A (o + 19) (A 0) (A 6) 2 kG_P (o + 33) v H hE hA hP hV hW) (cwV 0 hts (kt_inV kt_w323 kt_w320 kt_w321 kt_w322 kt_w4) rfl rfl rfl (by decide +kernel) ⟨Nat.le_of_ble_eq_true rfl, Nat.le_of_ble_eq_true rfl⟩) (kq_p2V (kr_C_s2 E A) (hKK.1) (kq_recv hB.1 hOc rfl)) rfl rfl hl.1 rfl (lv_room (Nat.le_of_ble_eq_true rfl)) d_Ke_plus_4 ⟨Nat.zero_le _, Nat.zero_le _⟩) (fun v9 H1 L1 hq9 hL1 => ?_)
  obtain ⟨rfl, w1, hW1, z1, k1⟩ := hq9
  refine W.eq (g2 := F0 m 7 ls []) rfl ?_
  have r1 : kc_rep none (w1 (o + 33 + 1)) (w1 (o + 33 + 2)) (w1 (o + 33 + 3)) := by rw [z1]; exact kc_rep_none _ _
  have hOo1 := kr_obj hW1 hO.1 hO.2.1
  have hOc1 := kr_obj hW1 hV.1 hV.2.1
  refine lv_aload_n hx hb d_Ke_plus_7 rfl (lv_at hl 0 rfl) ?_
  refine kq_get hx hb hts kt_F_Ke hown hK hOo1 rfl 4 (by decide) kt_w140 rfl d_Ke_plus_8 ?_
  refine lv_aload_n hx hb d_Ke_plus_11 rfl (lv_at hl 0 rfl) ?_
  refine lv_iload_n hx hb d_Ke_plus_12 rfl (lv_at hl 2 rfl) ?_
  refine kq_call (va_runV (As := [.int a]) (rest := [.ref (o + 33)]) ⟨hx, hb, hml, hown, hts⟩ (c_Ke_spot l E A o bs w1 H1 hE hA hO hW1 a) (cwV 1 hts (kt_inV kt_w276 kt_w273 kt_w275 kt_s5 kt_w1) rfl rfl rfl (by decide +kernel) ⟨Nat.le_of_ble_eq_true rfl, Nat.le_of_ble_eq_true rfl⟩) (kq_p2V (kr_K_s2 E A o) (hKK) (kq_recv hKK.1.1.1 hOo1 rfl)) rfl rfl hl.1 rfl (lv_room (Nat.le_of_ble_eq_true rfl)) d_Ke_plus_13 ⟨Nat.zero_le _, Nat.zero_le _⟩) (fun v9 H9 L2 hq9 hL2 => ?_)
  obtain ⟨rfl, e9⟩ := hq9
  rw [e9]
  clear e9
  refine W.eq (g2 := F0 m 16 ls [.ref (o + 7 + 3 * kx3 a), .ref (o + 33)]) rfl ?_
  have y1 := k1 (o + 7 + 3 * kx3 a + 1) (by unfold kr_fr; omega)
  have y2 := k1 (o + 7 + 3 * kx3 a + 2) (by unfold kr_fr; omega)
  refine kq_call (va_runV (As := [.ref (o + 7 + 3 * kx3 a)]) (rest := []) ⟨hx, hb, hml, hown, hts⟩ (c_Cu_join l E A (o + 19) (A 0) (A 6) 2 kG_P (o + 33) (o + 7 + 3 * kx3 a) w1 H1 hE hA hP hV hW1 (bs (kx3 a)) hSa (by omega) none r1 (fun z => by rw [y1, y2]; exact hla z)) (cwV 1 hts (kt_inV kt_w328 kt_w325 kt_w326 kt_w327 kt_w4) rfl rfl rfl (by decide +kernel) ⟨Nat.le_of_ble_eq_true rfl, Nat.le_of_ble_eq_true rfl⟩) (kq_p2V (kr_C_s2 E A) (hKK.1) (kq_recv hB.1 hOc1 rfl)) rfl rfl hl.1 rfl (lv_room (Nat.le_of_ble_eq_true rfl)) d_Ke_plus_16 ⟨Nat.zero_le _, Nat.zero_le _⟩) (fun v9 H2 L3 hq9 hL3 => ?_)
  obtain ⟨rfl, w2, hW2, r2, k2⟩ := hq9
  refine W.eq (g2 := F0 m 19 ls []) rfl ?_
  rw [y1, y2] at r2
  have k2 : ∀ x, ¬ kr_fr (o + 19) (o + 33) x → w2 x = v x := fun x hx => by rw [k2 x hx]; exact k1 x hx
  have hOo2 := kr_obj hW2 hO.1 hO.2.1
  have hOc2 := kr_obj hW2 hV.1 hV.2.1
  refine lv_aload_n hx hb d_Ke_plus_19 rfl (lv_at hl 0 rfl) ?_
  refine kq_get hx hb hts kt_F_Ke hown hK hOo2 rfl 4 (by decide) kt_w140 rfl d_Ke_plus_20 ?_
  refine lv_aload_n hx hb d_Ke_plus_23 rfl (lv_at hl 0 rfl) ?_
  refine lv_iload_n hx hb d_Ke_plus_24 rfl (lv_at hl 3 rfl) ?_
  refine kq_call (va_runV (As := [.int b]) (rest := [.ref (o + 33)]) ⟨hx, hb, hml, hown, hts⟩ (c_Ke_spot l E A o bs w2 H2 hE hA hO hW2 b) (cwV 1 hts (kt_inV kt_w276 kt_w273 kt_w275 kt_s5 kt_w1) rfl rfl rfl (by decide +kernel) ⟨Nat.le_of_ble_eq_true rfl, Nat.le_of_ble_eq_true rfl⟩) (kq_p2V (kr_K_s2 E A o) (hKK) (kq_recv hKK.1.1.1 hOo2 rfl)) rfl rfl hl.1 rfl (lv_room (Nat.le_of_ble_eq_true rfl)) d_Ke_plus_25 ⟨Nat.zero_le _, Nat.zero_le _⟩) (fun v9 H9 L4 hq9 hL4 => ?_)
  obtain ⟨rfl, e9⟩ := hq9
  rw [e9]
  clear e9
  refine W.eq (g2 := F0 m 28 ls [.ref (o + 7 + 3 * kx3 b), .ref (o + 33)]) rfl ?_
  have y3 := k2 (o + 7 + 3 * kx3 b + 1) (by unfold kr_fr; omega)
  have y4 := k2 (o + 7 + 3 * kx3 b + 2) (by unfold kr_fr; omega)
  refine kq_call (va_runV (As := [.ref (o + 7 + 3 * kx3 b)]) (rest := []) ⟨hx, hb, hml, hown, hts⟩ (c_Cu_join l E A (o + 19) (A 0) (A 6) 2 kG_P (o + 33) (o + 7 + 3 * kx3 b) w2 H2 hE hA hP hV hW2 (bs (kx3 b)) hSb (by omega) _ r2 (fun z => by rw [y3, y4]; exact hlb z)) (cwV 1 hts (kt_inV kt_w328 kt_w325 kt_w326 kt_w327 kt_w4) rfl rfl rfl (by decide +kernel) ⟨Nat.le_of_ble_eq_true rfl, Nat.le_of_ble_eq_true rfl⟩) (kq_p2V (kr_C_s2 E A) (hKK.1) (kq_recv hB.1 hOc2 rfl)) rfl rfl hl.1 rfl (lv_room (Nat.le_of_ble_eq_true rfl)) d_Ke_plus_28 ⟨Nat.zero_le _, Nat.zero_le _⟩) (fun v9 H3 L5 hq9 hL5 => ?_)
  obtain ⟨rfl, w3, hW3, r3, k3⟩ := hq9
  refine W.eq (g2 := F0 m 31 ls []) rfl ?_
  rw [y3, y4] at r3
  have r3 : kc_rep (kc_sum2 (bs (kx3 a)) (v (o + 7 + 3 * kx3 a + 1)) (v (o + 7 + 3 * kx3 a + 2)) (bs (kx3 b)) (v (o + 7 + 3 * kx3 b + 1)) (v (o + 7 + 3 * kx3 b + 2))) (w3 (o + 33 + 1)) (w3 (o + 33 + 2)) (w3 (o + 33 + 3)) := r3
  have k3 : ∀ x, ¬ kr_fr (o + 19) (o + 33) x → w3 x = v x := fun x hx => by rw [k3 x hx]; exact k2 x hx
  have hOo3 := kr_obj hW3 hO.1 hO.2.1
  have hOc3 := kr_obj hW3 hV.1 hV.2.1
  refine lv_aload_n hx hb d_Ke_plus_31 rfl (lv_at hl 0 rfl) ?_
  refine kq_get hx hb hts kt_F_Ke hown hK hOo3 rfl 4 (by decide) kt_w140 rfl d_Ke_plus_32 ?_
  refine lv_aload_n hx hb d_Ke_plus_35 rfl (lv_at hl 0 rfl) ?_
  refine lv_iload_n hx hb d_Ke_plus_36 rfl (lv_at hl 1 rfl) ?_
  refine kq_call (va_runV (As := [.int q]) (rest := [.ref (o + 33)]) ⟨hx, hb, hml, hown, hts⟩ (c_Ke_spot l E A o bs w3 H3 hE hA hO hW3 q) (cwV 1 hts (kt_inV kt_w276 kt_w273 kt_w275 kt_s5 kt_w1) rfl rfl rfl (by decide +kernel) ⟨Nat.le_of_ble_eq_true rfl, Nat.le_of_ble_eq_true rfl⟩) (kq_p2V (kr_K_s2 E A o) (hKK) (kq_recv hKK.1.1.1 hOo3 rfl)) rfl rfl hl.1 rfl (lv_room (Nat.le_of_ble_eq_true rfl)) d_Ke_plus_37 ⟨Nat.zero_le _, Nat.zero_le _⟩) (fun v9 H9 L6 hq9 hL6 => ?_)
  obtain ⟨rfl, e9⟩ := hq9
  rw [e9]
  clear e9
  refine W.eq (g2 := F0 m 40 ls [.ref (o + 7 + 3 * kx3 q), .ref (o + 33)]) rfl ?_
  have hlcZ : ∀ x ∈ (((((([] : List Loc) ++ L1) ++ L2) ++ L3) ++ L4) ++ L5) ++ L6, x.base = o + 7 + 3 * kx3 q ∨ x.base = o + 7 + 3 * kx3 q + 1 ∨ x.base = o + 7 + 3 * kx3 q + 2 ∨ kr_fr (o + 19) (o + 33) x.base := (t_lL (free := (fun x => x = o + 7 + 3 * kx3 q ∨ x = o + 7 + 3 * kx3 q + 1 ∨ x = o + 7 + 3 * kx3 q + 2 ∨ kr_fr (o + 19) (o + 33) x)) (t_lL (free := (fun x => x = o + 7 + 3 * kx3 q ∨ x = o + 7 + 3 * kx3 q + 1 ∨ x = o + 7 + 3 * kx3 q + 2 ∨ kr_fr (o + 19) (o + 33) x)) (t_lL (free := (fun x => x = o + 7 + 3 * kx3 q ∨ x = o + 7 + 3 * kx3 q + 1 ∨ x = o + 7 + 3 * kx3 q + 2 ∨ kr_fr (o + 19) (o + 33) x)) (t_lL (free := (fun x => x = o + 7 + 3 * kx3 q ∨ x = o + 7 + 3 * kx3 q + 1 ∨ x = o + 7 + 3 * kx3 q + 2 ∨ kr_fr (o + 19) (o + 33) x)) (t_lL (free := (fun x => x = o + 7 + 3 * kx3 q ∨ x = o + 7 + 3 * kx3 q + 1 ∨ x = o + 7 + 3 * kx3 q + 2 ∨ kr_fr (o + 19) (o + 33) x)) (t_lL (free := (fun x => x = o + 7 + 3 * kx3 q ∨ x = o + 7 + 3 * kx3 q + 1 ∨ x = o + 7 + 3 * kx3 q + 2 ∨ kr_fr (o + 19) (o + 33) x)) (fun q h => by cases h) (fun q z => Or.inr (Or.inr (Or.inr (hL1 q z))))) (fun q z => (hL2 q z).elim)) (fun q z => Or.inr (Or.inr (Or.inr (hL3 q z))))) (fun q z => (hL4 q z).elim)) (fun q z => Or.inr (Or.inr (Or.inr (hL5 q z))))) (fun q z => (hL6 q z).elim))
  refine kq_call (va_runV (As := [.ref (o + 7 + 3 * kx3 q)]) (rest := []) ⟨hx, hb, hml, hown, hts⟩ (c_Cu_finish l E A (o + 19) (A 0) (A 6) 2 kG_P (o + 33) (o + 7 + 3 * kx3 q) w3 H3 hE hA hP hV hW3 (bs (kx3 q)) hSq (by omega) _ r3) (cwV 1 hts (kt_inV kt_w346 kt_w343 kt_w344 kt_w345 kt_w4) rfl rfl rfl (by decide +kernel) ⟨Nat.le_of_ble_eq_true rfl, Nat.le_of_ble_eq_true rfl⟩) (kq_p2V (kr_C_s2 E A) (hKK.1) (kq_recv hB.1 hOc3 rfl)) rfl rfl hl.1 rfl (lv_room (Nat.le_of_ble_eq_true rfl)) d_Ke_plus_40 ⟨Nat.zero_le _, Nat.zero_le _⟩) (fun v9 H9 Lf hq9 hLf => ?_)
  obtain ⟨rfl, w9, h1, h2, h3, h4⟩ := hq9
  refine W.eq (g2 := F0 m 43 ls []) rfl ?_
  refine W.vret hx hb hret (fun t ht _ => ⟨_, rfl, rfl, w9, by rw [ht]; exact h1, h2, fun z => ?_, fun x x1 x2 x3 => ?_⟩) (t_lL (free := (fun x => x = o + 7 + 3 * kx3 q ∨ x = o + 7 + 3 * kx3 q + 1 ∨ x = o + 7 + 3 * kx3 q + 2 ∨ kr_fr (o + 19) (o + 33) x)) hlcZ hLf) d_Ke_plus_43
  · rw [(h3 z).1, (h3 z).2]
    exact ⟨k3 _ (by unfold kr_fr; omega), k3 _ (by unfold kr_fr; omega)⟩
  · rw [h4 x x1 x2 x3]
    exact k3 x x3
theorem d_Ke_times_0 : decode b_Ke_times 0 = .ok (.aload_n 0, 1) := by decide +kernel
theorem d_Ke_times_1 : decode b_Ke_times 1 = .ok (.getfield 51, 3) := by decide +kernel
theorem d_Ke_times_4 : decode b_Ke_times 4 = .ok (.aload_n 0, 1) := by decide +kernel
theorem d_Ke_times_5 : decode b_Ke_times 5 = .ok (.iload_n 2, 1) := by decide +kernel
theorem d_Ke_times_6 : decode b_Ke_times 6 = .ok (.invokevirtual 82, 3) := by decide +kernel
theorem d_Ke_times_9 : decode b_Ke_times 9 = .ok (.aload_n 0, 1) := by decide +kernel
theorem d_Ke_times_10 : decode b_Ke_times 10 = .ok (.iload_n 3, 1) := by decide +kernel
theorem d_Ke_times_11 : decode b_Ke_times 11 = .ok (.invokevirtual 55, 3) := by decide +kernel
theorem d_Ke_times_14 : decode b_Ke_times 14 = .ok (.invokevirtual 117, 3) := by decide +kernel
theorem d_Ke_times_17 : decode b_Ke_times 17 = .ok (.aload_n 0, 1) := by decide +kernel
theorem d_Ke_times_18 : decode b_Ke_times 18 = .ok (.getfield 51, 3) := by decide +kernel
theorem d_Ke_times_21 : decode b_Ke_times 21 = .ok (.aload_n 0, 1) := by decide +kernel
theorem d_Ke_times_22 : decode b_Ke_times 22 = .ok (.iload_n 1, 1) := by decide +kernel
theorem d_Ke_times_23 : decode b_Ke_times 23 = .ok (.invokevirtual 82, 3) := by decide +kernel
theorem d_Ke_times_26 : decode b_Ke_times 26 = .ok (.invokevirtual 114, 3) := by decide +kernel
theorem d_Ke_times_29 : decode b_Ke_times 29 = .ok (.return_, 1) := by decide +kernel
set_option maxHeartbeats 4000000 in
set_option maxRecDepth 100000 in
theorem c_Ke_times (l : Launch) (E : kr_E) (A : Nat → Nat) (o : Nat) (bs : Nat → Bool) (v : Nat → Nat) (H : Heap) (hE : kr_ok E) (hA : kr_A E A) (hO : kr_O E A o bs) (hW : kr_W E v H) (hlow : ∀ j, j < 4 → bs j = false → v (o + 7 + 3 * j + 1) < kP ∧ v (o + 7 + 3 * j + 2) < kP) (q a r : Int32) : Met l y_Ke_times w_Ke_times ({ frames := 6, cells := 0, slots := 0, locals := 142 }) (kq_P [.ref o, .int q, .int a, .int r] H (kr_K E A o)) (kq_Q (fun o1 H1 => o1 = none ∧ ∃ w : Nat → Nat, kr_Wb E (o + 7 + 3 * kx3 q) (kc_mj (v (o + 2 + kx3 r)) (bs (kx3 a)) (v (o + 7 + 3 * kx3 a + 1)) (v (o + 7 + 3 * kx3 a + 2)) 256).isNone w H1 ∧ (∀ q0, kc_mj (v (o + 2 + kx3 r)) (bs (kx3 a)) (v (o + 7 + 3 * kx3 a + 1)) (v (o + 7 + 3 * kx3 a + 2)) 256 = some q0 → w (o + 7 + 3 * kx3 q + 1) = q0.1 ∧ w (o + 7 + 3 * kx3 q + 2) = q0.2) ∧ (kc_mj (v (o + 2 + kx3 r)) (bs (kx3 a)) (v (o + 7 + 3 * kx3 a + 1)) (v (o + 7 + 3 * kx3 a + 2)) 256 = none → w (o + 7 + 3 * kx3 q + 1) = v (o + 7 + 3 * kx3 q + 1) ∧ w (o + 7 + 3 * kx3 q + 2) = v (o + 7 + 3 * kx3 q + 2)) ∧ ∀ x, x ≠ o + 7 + 3 * kx3 q + 1 → x ≠ o + 7 + 3 * kx3 q + 2 → ¬ kr_fr (o + 19) (o + 33) x → w x = v x)) 0 0 (fun x => x = o + 7 + 3 * kx3 q ∨ x = o + 7 + 3 * kx3 q + 1 ∨ x = o + 7 + 3 * kx3 q + 2 ∨ kr_fr (o + 19) (o + 33) x) := by
  refine Met.ofW (cc := b_Ke_times) (maxL := 4) (ret := none) (by decide) rfl ?_
  intro p e s m args below meth c s₁ B0 hml hv
  obtain ⟨rfl, hH, hKK⟩ := hv
  have hx := B0.exec
  have hb := B0.bytes
  have hret := B0.returns
  have hts := atoms_spec (ws := w_Ke_times) B0.pre
  have hown : s.vm.findClass R_Ke = some m.cls := findClass_of_methodNamed B0.named
  have hlocks := B0.notSynchronized
  rw [hH]
  have hl := lv_entry ([.ref o, .int q, .int a, .int r]) (n := 4) (Nat.le_of_ble_eq_true rfl)
  rw [lg_entry_eq]
  generalize (lg_sl ([.ref o, .int q, .int a, .int r]) ++ List.replicate (4 - (lg_sl ([.ref o, .int q, .int a, .int r])).length) Slot.unset).toArray = ls at hl ⊢
  have hl : lv_has ls 4 [(0, .ref o), (1, .int q), (2, .int a), (3, .int r)] := hl
  have hB := hKK.1.1
  have hT := kr_T hE hB
  have hK := hB.1
  have hOo := kr_obj hW hO.1 hO.2.1
  have hV := hO.2.2.2.2.2.1
  have hP := hO.2.2.2.1
  have hSq := hO.2.2.2.2.2.2.2 (kx3 q) (kx3_lt q)
  have hSa := hO.2.2.2.2.2.2.2 (kx3 a) (kx3_lt a)
  have hla := hlow (kx3 a) (kx3_lt a)
  have l1 := kx3_lt q
  have l2 := kx3_lt a
  have hOc := kr_obj hW hV.1 hV.2.1
  have hro := hO.2.2.2.2.2.2.1 (kx3 r) (kx3_lt r)
  have l3 := kx3_lt r
  refine lv_aload_n hx hb d_Ke_times_0 rfl (lv_at hl 0 rfl) ?_
  refine kq_get hx hb hts kt_F_Ke hown hK hOo rfl 4 (by decide) kt_w140 rfl d_Ke_times_1 ?_
  refine lv_aload_n hx hb d_Ke_times_4 rfl (lv_at hl 0 rfl) ?_
  refine lv_iload_n hx hb d_Ke_times_5 rfl (lv_at hl 2 rfl) ?_
  refine kq_call (va_runV (As := [.int a]) (rest := [.ref (o + 33)]) ⟨hx, hb, hml, hown, hts⟩ (c_Ke_spot l E A o bs v H hE hA hO hW a) (cwV 1 hts (kt_inV kt_w276 kt_w273 kt_w275 kt_s5 kt_w1) rfl rfl rfl (by decide +kernel) ⟨Nat.le_of_ble_eq_true rfl, Nat.le_of_ble_eq_true rfl⟩) (kq_p2V (kr_K_s2 E A o) (hKK) (kq_recv hKK.1.1.1 hOo rfl)) rfl rfl hl.1 rfl (lv_room (Nat.le_of_ble_eq_true rfl)) d_Ke_times_6 ⟨Nat.zero_le _, Nat.zero_le _⟩) (fun v9 H9 L1 hq9 hL1 => ?_)
  obtain ⟨rfl, e9⟩ := hq9
  rw [e9]
  clear e9
  refine W.eq (g2 := F0 m 9 ls [.ref (o + 7 + 3 * kx3 a), .ref (o + 33)]) rfl ?_
  refine lv_aload_n hx hb d_Ke_times_9 rfl (lv_at hl 0 rfl) ?_
  refine lv_iload_n hx hb d_Ke_times_10 rfl (lv_at hl 3 rfl) ?_
  refine kq_call (va_runV (As := [.int r]) (rest := [.ref (o + 7 + 3 * kx3 a), .ref (o + 33)]) ⟨hx, hb, hml, hown, hts⟩ (c_Ke_register l E A o bs v H hE hA hO hW r) (cwV 1 hts (kt_inV kt_w159 kt_w156 kt_w158 kt_s0 kt_w1) rfl rfl rfl (by decide +kernel) ⟨Nat.le_of_ble_eq_true rfl, Nat.le_of_ble_eq_true rfl⟩) (kq_p2V (kr_K_s2 E A o) (hKK) (kq_recv hKK.1.1.1 hOo rfl)) rfl rfl hl.1 rfl (lv_room (Nat.le_of_ble_eq_true rfl)) d_Ke_times_11 ⟨Nat.zero_le _, Nat.zero_le _⟩) (fun v9 H9 L2 hq9 hL2 => ?_)
  obtain ⟨rfl, e9⟩ := hq9
  rw [e9]
  clear e9
  refine W.eq (g2 := F0 m 14 ls [.ref (o + 2 + kx3 r), .ref (o + 7 + 3 * kx3 a), .ref (o + 33)]) rfl ?_
  refine kq_call (va_runV (As := [.ref (o + 7 + 3 * kx3 a), .ref (o + 2 + kx3 r)]) (rest := []) ⟨hx, hb, hml, hown, hts⟩ (c_Cu_startMultiple l E A (o + 19) (A 0) (A 6) 2 kG_P (o + 33) (o + 7 + 3 * kx3 a) v H hE hA hP hV hW (bs (kx3 a)) hSa (by omega) hla (o + 2 + kx3 r) (Or.inl hro) (by omega)) (cwV 2 hts (kt_inV kt_w355 kt_w352 kt_w353 kt_w354 kt_w4) rfl rfl rfl (by decide +kernel) ⟨Nat.le_of_ble_eq_true rfl, Nat.le_of_ble_eq_true rfl⟩) (kq_p2V (kr_C_s2 E A) (hKK.1) (kq_recv hB.1 hOc rfl)) rfl rfl hl.1 rfl (lv_room (Nat.le_of_ble_eq_true rfl)) d_Ke_times_14 ⟨Nat.zero_le _, Nat.zero_le _⟩) (fun v9 H3 L3 hq9 hL3 => ?_)
  obtain ⟨rfl, w3, hW3, r3, k3⟩ := hq9
  refine W.eq (g2 := F0 m 17 ls []) rfl ?_
  have hOo3 := kr_obj hW3 hO.1 hO.2.1
  have hOc3 := kr_obj hW3 hV.1 hV.2.1
  refine lv_aload_n hx hb d_Ke_times_17 rfl (lv_at hl 0 rfl) ?_
  refine kq_get hx hb hts kt_F_Ke hown hK hOo3 rfl 4 (by decide) kt_w140 rfl d_Ke_times_18 ?_
  refine lv_aload_n hx hb d_Ke_times_21 rfl (lv_at hl 0 rfl) ?_
  refine lv_iload_n hx hb d_Ke_times_22 rfl (lv_at hl 1 rfl) ?_
  refine kq_call (va_runV (As := [.int q]) (rest := [.ref (o + 33)]) ⟨hx, hb, hml, hown, hts⟩ (c_Ke_spot l E A o bs w3 H3 hE hA hO hW3 q) (cwV 1 hts (kt_inV kt_w276 kt_w273 kt_w275 kt_s5 kt_w1) rfl rfl rfl (by decide +kernel) ⟨Nat.le_of_ble_eq_true rfl, Nat.le_of_ble_eq_true rfl⟩) (kq_p2V (kr_K_s2 E A o) (hKK) (kq_recv hKK.1.1.1 hOo3 rfl)) rfl rfl hl.1 rfl (lv_room (Nat.le_of_ble_eq_true rfl)) d_Ke_times_23 ⟨Nat.zero_le _, Nat.zero_le _⟩) (fun v9 H9 L4 hq9 hL4 => ?_)
  obtain ⟨rfl, e9⟩ := hq9
  rw [e9]
  clear e9
  refine W.eq (g2 := F0 m 26 ls [.ref (o + 7 + 3 * kx3 q), .ref (o + 33)]) rfl ?_
  have hlcZ : ∀ x ∈ (((([] : List Loc) ++ L1) ++ L2) ++ L3) ++ L4, x.base = o + 7 + 3 * kx3 q ∨ x.base = o + 7 + 3 * kx3 q + 1 ∨ x.base = o + 7 + 3 * kx3 q + 2 ∨ kr_fr (o + 19) (o + 33) x.base := (t_lL (free := (fun x => x = o + 7 + 3 * kx3 q ∨ x = o + 7 + 3 * kx3 q + 1 ∨ x = o + 7 + 3 * kx3 q + 2 ∨ kr_fr (o + 19) (o + 33) x)) (t_lL (free := (fun x => x = o + 7 + 3 * kx3 q ∨ x = o + 7 + 3 * kx3 q + 1 ∨ x = o + 7 + 3 * kx3 q + 2 ∨ kr_fr (o + 19) (o + 33) x)) (t_lL (free := (fun x => x = o + 7 + 3 * kx3 q ∨ x = o + 7 + 3 * kx3 q + 1 ∨ x = o + 7 + 3 * kx3 q + 2 ∨ kr_fr (o + 19) (o + 33) x)) (t_lL (free := (fun x => x = o + 7 + 3 * kx3 q ∨ x = o + 7 + 3 * kx3 q + 1 ∨ x = o + 7 + 3 * kx3 q + 2 ∨ kr_fr (o + 19) (o + 33) x)) (fun q h => by cases h) (fun q z => (hL1 q z).elim)) (fun q z => (hL2 q z).elim)) (fun q z => Or.inr (Or.inr (Or.inr (hL3 q z))))) (fun q z => (hL4 q z).elim))
  refine kq_call (va_runV (As := [.ref (o + 7 + 3 * kx3 q)]) (rest := []) ⟨hx, hb, hml, hown, hts⟩ (c_Cu_finish l E A (o + 19) (A 0) (A 6) 2 kG_P (o + 33) (o + 7 + 3 * kx3 q) w3 H3 hE hA hP hV hW3 (bs (kx3 q)) hSq (by omega) _ r3) (cwV 1 hts (kt_inV kt_w346 kt_w343 kt_w344 kt_w345 kt_w4) rfl rfl rfl (by decide +kernel) ⟨Nat.le_of_ble_eq_true rfl, Nat.le_of_ble_eq_true rfl⟩) (kq_p2V (kr_C_s2 E A) (hKK.1) (kq_recv hB.1 hOc3 rfl)) rfl rfl hl.1 rfl (lv_room (Nat.le_of_ble_eq_true rfl)) d_Ke_times_26 ⟨Nat.zero_le _, Nat.zero_le _⟩) (fun v9 H9 Lf hq9 hLf => ?_)
  obtain ⟨rfl, w9, h1, h2, h3, h4⟩ := hq9
  refine W.eq (g2 := F0 m 29 ls []) rfl ?_
  refine W.vret hx hb hret (fun t ht _ => ⟨_, rfl, rfl, w9, by rw [ht]; exact h1, h2, fun z => ?_, fun x x1 x2 x3 => ?_⟩) (t_lL (free := (fun x => x = o + 7 + 3 * kx3 q ∨ x = o + 7 + 3 * kx3 q + 1 ∨ x = o + 7 + 3 * kx3 q + 2 ∨ kr_fr (o + 19) (o + 33) x)) hlcZ hLf) d_Ke_times_29
  · rw [(h3 z).1, (h3 z).2]
    exact ⟨k3 _ (by unfold kr_fr; omega), k3 _ (by unfold kr_fr; omega)⟩
  · rw [h4 x x1 x2 x3]
    exact k3 x x3
