/-! KeyCurveModel: its world; minus, plus, multiply of rows (own rows). -/
def ks_Z (E : ks_E) (A : Nat → Nat) (U : State) : Prop := va_Z "KeyCurveModel" "P" "[I" (.ref (A 0)) (ks_L E) U (ks_H E) ∧ va_Z "KeyCurveModel" "N" "[I" (.ref (A 1)) (ks_L E) U (ks_H E) ∧ va_Z "KeyCurveModel" "GX" "[I" (.ref (A 2)) (ks_L E) U (ks_H E) ∧ va_Z "KeyCurveModel" "GY" "[I" (.ref (A 3)) (ks_L E) U (ks_H E)
theorem ks_Z_st (E : ks_E) (A : Nat → Nat) : kq_st (ks_Z E A) := fun _ _ hv q => ⟨q.1.moved hv, q.2.1.moved hv, q.2.2.1.moved hv, q.2.2.2.moved hv⟩
def ks_A (E : ks_E) (A : Nat → Nat) : Prop := (ks_S E (A 0) ∧ ks_v E (A 0) = kP) ∧ (ks_S E (A 1) ∧ ks_v E (A 1) = kN) ∧ (ks_S E (A 2) ∧ ks_v E (A 2) = kX_G) ∧ (ks_S E (A 3) ∧ ks_v E (A 3) = kY_G)
def ks_C (E : ks_E) (A : Nat → Nat) (U : State) : Prop := ks_B E U ∧ ks_Z E A U
theorem ks_C_st (E : ks_E) (A : Nat → Nat) : kq_st (ks_C E A) := (ks_st E).both (ks_Z_st E A)
/-- the model's object at mo, its flag isFar, its rows behind it -/
def ks_O (E : ks_E) (mo : Nat) (far : Bool) : Prop := va_P (ks_D E) kr_cl [(mo, .inr (4, [.ref (mo + 1), .ref (mo + 6), .ref (mo + 11), .ref (mo + 16), .ref (mo + 17), .ref (mo + 18), .ref (mo + 19), .ref (mo + 20), .ref (mo + 21), .ref (mo + 22), .ref (mo + 23), .ref (mo + 24), .ref (mo + 25), .ref (mo + 26), .ref (mo + 27), .ref (mo + 28), .ref (mo + 29), .int (kq_z far), .ref (mo + 30), .ref (mo + 31)]))] (ks_H E) ∧ ¬ ks_L E mo ∧ (∀ k, 18 ≤ k → k ≤ 31 → k ≠ 21 → ks_out E (mo + k)) ∧ (ks_L E (mo + 21) ∧ ks_n E (mo + 21) = 16) ∧ (ks_S E (mo + 17) ∧ ks_v E (mo + 17) = 1)
theorem ks_zat {E : ks_E} {w : Nat → Nat} {H : Heap} {s : State} {C n d : String} {v : Value} (hW : ks_W E w H) (hZ : va_Z C n d v (ks_L E) s (ks_H E)) : va_Z C n d v (ks_L E) s H := hZ.kept (fun a _ hn => hW.2.2.1 a hn)
theorem ks_cst {E : ks_E} {w : Nat → Nat} {H : Heap} {a X : Nat} (hW : ks_W E w H) (h : ks_S E a ∧ ks_v E a = X) : w a = X := by
  rw [hW.2.2.2.2 a h.1]
  exact h.2
theorem kP_M8 : kP < kw_M 8 ∧ kw_M 8 < 2 * kP := by decide +kernel
theorem kx_minus {A B : Nat} (hA : A < kP) (hB : B < kP) : (if A < B then (kw_sub A B + kP) % kw_M 8 else kw_sub A B) = kp_dif kP A B := by
  have h8 := kP_M8
  have hp : kP = 115792089237316195423570985008687907853269984665640564039457584007908834671663 := rfl
  unfold kp_dif kw_sub
  rw [Nat.mod_eq_of_lt hB]
  rw [kw_M_8] at *
  rw [hp] at hA hB ⊢
  split <;> omega
theorem kx_plus {A B : Nat} (hA : A < kP) (hB : B < kP) : (if (A + B) / kw_M 8 = 1 ∨ kP ≤ (A + B) % kw_M 8 then kw_sub ((A + B) % kw_M 8) kP else (A + B) % kw_M 8) = (A + B) % kP := by
  have h8 := kP_M8
  have hp : kP = 115792089237316195423570985008687907853269984665640564039457584007908834671663 := rfl
  unfold kw_sub
  rw [kw_M_8] at *
  rw [hp] at hA hB ⊢
  split <;> omega
theorem ks_in_ne {E : ks_E} {mo a : Nat} {far : Bool} (hE : ks_ok E) (hO : ks_O E mo far) (ha : ks_in E a) : a ≠ mo + 21 := by
  intro e
  subst e
  have hw := hO.2.2.2.1
  rcases ha with ⟨-, h2⟩ | h1
  · rw [hw.2] at h2
    omega
  · exact hE.1 _ h1 hw.1
theorem ks_wide {E : ks_E} {mo : Nat} {far : Bool} {v : Nat → Nat} {H : Heap} (hO : ks_O E mo far) (hW : ks_W E v H) : H[mo + 21]? = some (kq_I (ks_c E) 16 (v (mo + 21))) ∧ v (mo + 21) < kw_M 16 := by
  have hwd := hO.2.2.2.1
  have q := hW.2.1 (mo + 21) hwd.1
  have q2 := hW.2.2.2.1 (mo + 21) hwd.1
  rw [hwd.2] at q q2
  exact ⟨q, q2⟩
theorem d_Mo_minus_0 : decode b_Mo_minus 0 = .ok (.aload_n 0, 1) := by decide +kernel
theorem d_Mo_minus_1 : decode b_Mo_minus 1 = .ok (.aload_n 1, 1) := by decide +kernel
theorem d_Mo_minus_2 : decode b_Mo_minus 2 = .ok (.aload_n 2, 1) := by decide +kernel
theorem d_Mo_minus_3 : decode b_Mo_minus 3 = .ok (.invokestatic 97, 3) := by decide +kernel
theorem d_Mo_minus_6 : decode b_Mo_minus 6 = .ok (.ifCond .eq 12, 3) := by decide +kernel
theorem d_Mo_minus_9 : decode b_Mo_minus 9 = .ok (.aload_n 0, 1) := by decide +kernel
theorem d_Mo_minus_10 : decode b_Mo_minus 10 = .ok (.aload_n 0, 1) := by decide +kernel
theorem d_Mo_minus_11 : decode b_Mo_minus 11 = .ok (.getstatic 90, 3) := by decide +kernel
theorem d_Mo_minus_14 : decode b_Mo_minus 14 = .ok (.invokestatic 101, 3) := by decide +kernel
theorem d_Mo_minus_17 : decode b_Mo_minus 17 = .ok (.pop, 1) := by decide +kernel
theorem d_Mo_minus_18 : decode b_Mo_minus 18 = .ok (.return_, 1) := by decide +kernel
set_option maxHeartbeats 4000000 in
set_option maxRecDepth 100000 in
theorem c_Mo_minus (l : Launch) (E : ks_E) (A : Nat → Nat) (v : Nat → Nat) (H : Heap) (hE : ks_ok E) (hA : ks_A E A) (hW : ks_W E v H) (r a b : Nat) (hr : ks_out E r) (ha : ks_in E a) (hb0 : ks_in E b) (hla : v a < kP) (hlb : v b < kP) : Met l y_Mo_minus w_Mo_minus ({ frames := 1, cells := 0, slots := 0, locals := 25 }) (kq_P [.ref r, .ref a, .ref b] H (ks_C E A)) (kq_Q (fun o H1 => o = none ∧ ks_W E (va_up v r (kp_dif kP (v a) (v b))) H1)) 0 0 (fun q => q = r) := by
  refine Met.ofW (cc := b_Mo_minus) (maxL := 3) (ret := none) (by decide) rfl ?_
  intro p e s m args below meth c s₁ B0 hml hv
  obtain ⟨rfl, hH, hC⟩ := hv
  have hx := B0.exec
  have hb := B0.bytes
  have hret := B0.returns
  have hts := atoms_spec (ws := w_Mo_minus) B0.pre
  have hown : s.vm.findClass R_Mo = some m.cls := findClass_of_methodNamed B0.named
  have hlocks := B0.notSynchronized
  rw [hH]
  have hl := lv_entry ([.ref r, .ref a, .ref b]) (n := 3) (Nat.le_of_ble_eq_true rfl)
  rw [lg_entry_eq]
  generalize (lg_sl ([.ref r, .ref a, .ref b]) ++ List.replicate (3 - (lg_sl ([.ref r, .ref a, .ref b])).length) Slot.unset).toArray = ls at hl ⊢
  have hl : lv_has ls 3 [(0, .ref r), (1, .ref a), (2, .ref b)] := hl
  have hB := hC.1
  have hT := ks_T hE hB
  have hsa := ks_src hE hW hB ha
  have hsb := ks_src hE hW hB hb0
  have hA8 := ks_lt hE hW ha
  have hB8 := ks_lt hE hW hb0
  have hlr := ks_lt hE hW (Or.inl hr)
  have hrr := ks_row hW hr
  have key := kx_minus hla hlb
  refine lv_aload_n hx hb d_Mo_minus_0 rfl (lv_at hl 0 rfl) ?_
  refine lv_aload_n hx hb d_Mo_minus_1 rfl (lv_at hl 1 rfl) ?_
  refine lv_aload_n hx hb d_Mo_minus_2 rfl (lv_at hl 2 rfl) ?_
  refine kq_call (va_runS (As := [.ref r, .ref a, .ref b]) (rest := []) ⟨hx, hb, hml, hown, hts⟩ (c_Mo_sub l H (ks_c E) r a b (v r) (v a) (v b) hlr hA8 hB8 hrr) (va_cwS 3 hts (kt_inS kt_w475 kt_w473 kt_w474 kt_w5) rfl rfl rfl (by decide +kernel) ⟨Nat.le_of_ble_eq_true rfl, Nat.le_of_ble_eq_true rfl⟩) (kq_preS (kq_st_A.both (kq_st_r.both kq_st_r)) (⟨hT, hsa, hsb⟩)) rfl rfl hl.1 rfl (lv_room (Nat.le_of_ble_eq_true rfl)) d_Mo_minus_3 ⟨Nat.zero_le _, Nat.zero_le _⟩) (fun v9 H9 L1 hq9 hL1 => ?_)
  obtain ⟨rfl, rfl⟩ := hq9
  refine W.eq (g2 := F0 m 6 ls [.int (nI (18446744073709551616 - (if v a < v b then 1 else 0)))]) rfl ?_
  have hW1 := ks_put hE hW hr (kw_sub_lt (v a) (v b))
  refine lv_if_eq hx hb d_Mo_minus_6 rfl (fun hc => ?_) (fun hc => ?_)
  · have hn : ¬ v a < v b := fun q => by
      rw [if_pos q] at hc
      exact absurd hc (by decide +kernel)
    rw [if_neg hn] at key
    refine W.vret hx hb hret (fun t ht _ => ⟨_, rfl, rfl, ?_⟩) (t_lL (free := fun q => q = r) (fun q h => by cases h) hL1) d_Mo_minus_18
    rw [ht, ← key]
    exact hW1
  · have hn : v a < v b := Classical.byContradiction fun q => by
      rw [if_neg q] at hc
      exact hc (by decide +kernel)
    rw [if_pos hn] at key
    have hsr1 := ks_src hE hW1 hB (Or.inl hr)
    have hrr1 := ks_row hW1 hr
    have hsp1 := ks_src hE hW1 hB (Or.inr hA.1.1)
    have hlp1 := ks_lt hE hW1 (Or.inr hA.1.1)
    rw [ks_cst hW1 hA.1] at hsp1 hlp1
    rw [kq_up_at] at hsr1 hrr1
    refine lv_aload_n hx hb d_Mo_minus_9 rfl (lv_at hl 0 rfl) ?_
    refine lv_aload_n hx hb d_Mo_minus_10 rfl (lv_at hl 0 rfl) ?_
    refine kq_gets hx hb hts (ks_zat hW1 hC.2.1) hown kt_w453 d_Mo_minus_11 ?_
    refine kq_call (va_runS (As := [.ref r, .ref r, .ref (A 0)]) (rest := []) ⟨hx, hb, hml, hown, hts⟩ (c_Mo_add_1 l _ (ks_c E) r r (A 0) (kw_sub (v a) (v b)) (kw_sub (v a) (v b)) kP (kw_sub_lt _ _) (kw_sub_lt _ _) hlp1 hrr1) (va_cwS 3 hts (kt_inS kt_w479 kt_w477 kt_w478 kt_w5) rfl rfl rfl (by decide +kernel) ⟨Nat.le_of_ble_eq_true rfl, Nat.le_of_ble_eq_true rfl⟩) (kq_preS (kq_st_A.both (kq_st_r.both kq_st_r)) (⟨hT, hsr1, hsp1⟩)) rfl rfl hl.1 rfl (lv_room (Nat.le_of_ble_eq_true rfl)) d_Mo_minus_14 ⟨Nat.zero_le _, Nat.zero_le _⟩) (fun v9 H9 L2 hq9 hL2 => ?_)
    obtain ⟨rfl, rfl⟩ := hq9
    refine W.eq (g2 := F0 m 17 ls [.int (nI ((kw_sub (v a) (v b) + kP) / kw_M 8))]) rfl ?_
    refine kq_rH (kq_set_set _ _ _ _) ?_
    refine lv_pop hx hb d_Mo_minus_17 rfl ?_
    refine W.vret hx hb hret (fun t ht _ => ⟨_, rfl, rfl, ?_⟩) (t_lL (free := fun q => q = r) (t_lL (free := fun q => q = r) (fun q h => by cases h) hL1) hL2) d_Mo_minus_18
    rw [ht, ← key]
    exact ks_put hE hW hr (Nat.mod_lt _ (kw_M_pos 8))
theorem d_Mo_plus_1_0 : decode b_Mo_plus_1 0 = .ok (.aload_n 0, 1) := by decide +kernel
theorem d_Mo_plus_1_1 : decode b_Mo_plus_1 1 = .ok (.aload_n 1, 1) := by decide +kernel
theorem d_Mo_plus_1_2 : decode b_Mo_plus_1 2 = .ok (.aload_n 2, 1) := by decide +kernel
theorem d_Mo_plus_1_3 : decode b_Mo_plus_1 3 = .ok (.invokestatic 101, 3) := by decide +kernel
theorem d_Mo_plus_1_6 : decode b_Mo_plus_1 6 = .ok (.iconst 1, 1) := by decide +kernel
theorem d_Mo_plus_1_7 : decode b_Mo_plus_1 7 = .ok (.if_icmp .eq 13, 3) := by decide +kernel
theorem d_Mo_plus_1_10 : decode b_Mo_plus_1 10 = .ok (.aload_n 0, 1) := by decide +kernel
theorem d_Mo_plus_1_11 : decode b_Mo_plus_1 11 = .ok (.getstatic 90, 3) := by decide +kernel
theorem d_Mo_plus_1_14 : decode b_Mo_plus_1 14 = .ok (.invokestatic 93, 3) := by decide +kernel
theorem d_Mo_plus_1_17 : decode b_Mo_plus_1 17 = .ok (.ifCond .lt 12, 3) := by decide +kernel
theorem d_Mo_plus_1_20 : decode b_Mo_plus_1 20 = .ok (.aload_n 0, 1) := by decide +kernel
theorem d_Mo_plus_1_21 : decode b_Mo_plus_1 21 = .ok (.aload_n 0, 1) := by decide +kernel
theorem d_Mo_plus_1_22 : decode b_Mo_plus_1 22 = .ok (.getstatic 90, 3) := by decide +kernel
theorem d_Mo_plus_1_25 : decode b_Mo_plus_1 25 = .ok (.invokestatic 97, 3) := by decide +kernel
theorem d_Mo_plus_1_28 : decode b_Mo_plus_1 28 = .ok (.pop, 1) := by decide +kernel
theorem d_Mo_plus_1_29 : decode b_Mo_plus_1 29 = .ok (.return_, 1) := by decide +kernel
set_option maxHeartbeats 4000000 in
set_option maxRecDepth 100000 in
theorem c_Mo_plus_1 (l : Launch) (E : ks_E) (A : Nat → Nat) (v : Nat → Nat) (H : Heap) (hE : ks_ok E) (hA : ks_A E A) (hW : ks_W E v H) (r a b : Nat) (hr : ks_out E r) (ha : ks_in E a) (hb0 : ks_in E b) (hla : v a < kP) (hlb : v b < kP) : Met l y_Mo_plus_1 w_Mo_plus_1 ({ frames := 3, cells := 0, slots := 0, locals := 64 }) (kq_P [.ref r, .ref a, .ref b] H (ks_C E A)) (kq_Q (fun o H1 => o = none ∧ ks_W E (va_up v r ((v a + v b) % kP)) H1)) 0 0 (fun q => q = r) := by
  refine Met.ofW (cc := b_Mo_plus_1) (maxL := 3) (ret := none) (by decide) rfl ?_
  intro p e s m args below meth c s₁ B0 hml hv
  obtain ⟨rfl, hH, hC⟩ := hv
  have hx := B0.exec
  have hb := B0.bytes
  have hret := B0.returns
  have hts := atoms_spec (ws := w_Mo_plus_1) B0.pre
  have hown : s.vm.findClass R_Mo = some m.cls := findClass_of_methodNamed B0.named
  have hlocks := B0.notSynchronized
  rw [hH]
  have hl := lv_entry ([.ref r, .ref a, .ref b]) (n := 3) (Nat.le_of_ble_eq_true rfl)
  rw [lg_entry_eq]
  generalize (lg_sl ([.ref r, .ref a, .ref b]) ++ List.replicate (3 - (lg_sl ([.ref r, .ref a, .ref b])).length) Slot.unset).toArray = ls at hl ⊢
  have hl : lv_has ls 3 [(0, .ref r), (1, .ref a), (2, .ref b)] := hl
  have hB := hC.1
  have hT := ks_T hE hB
  have hsa := ks_src hE hW hB ha
  have hsb := ks_src hE hW hB hb0
  have hA8 := ks_lt hE hW ha
  have hB8 := ks_lt hE hW hb0
  have hlr := ks_lt hE hW (Or.inl hr)
  have hrr := ks_row hW hr
  have key := kx_plus hla hlb
  have hX8 : (v a + v b) % kw_M 8 < kw_M 8 := Nat.mod_lt _ (kw_M_pos 8)
  have hc2 : (v a + v b) / kw_M 8 < 2 := Nat.div_lt_of_lt_mul (by omega)
  refine lv_aload_n hx hb d_Mo_plus_1_0 rfl (lv_at hl 0 rfl) ?_
  refine lv_aload_n hx hb d_Mo_plus_1_1 rfl (lv_at hl 1 rfl) ?_
  refine lv_aload_n hx hb d_Mo_plus_1_2 rfl (lv_at hl 2 rfl) ?_
  refine kq_call (va_runS (As := [.ref r, .ref a, .ref b]) (rest := []) ⟨hx, hb, hml, hown, hts⟩ (c_Mo_add_1 l H (ks_c E) r a b (v r) (v a) (v b) hlr hA8 hB8 hrr) (va_cwS 3 hts (kt_inS kt_w479 kt_w477 kt_w478 kt_w5) rfl rfl rfl (by decide +kernel) ⟨Nat.le_of_ble_eq_true rfl, Nat.le_of_ble_eq_true rfl⟩) (kq_preS (kq_st_A.both (kq_st_r.both kq_st_r)) (⟨hT, hsa, hsb⟩)) rfl rfl hl.1 rfl (lv_room (Nat.le_of_ble_eq_true rfl)) d_Mo_plus_1_3 ⟨Nat.zero_le _, Nat.zero_le _⟩) (fun v9 H9 L1 hq9 hL1 => ?_)
  obtain ⟨rfl, rfl⟩ := hq9
  refine W.eq (g2 := F0 m 6 ls [.int (nI ((v a + v b) / kw_M 8))]) rfl ?_
  have hW1 := ks_put hE hW hr hX8
  have hsr1 := ks_src hE hW1 hB (Or.inl hr)
  have hrr1 := ks_row hW1 hr
  have hsp1 := ks_src hE hW1 hB (Or.inr hA.1.1)
  have hlp1 := ks_lt hE hW1 (Or.inr hA.1.1)
  rw [ks_cst hW1 hA.1] at hsp1 hlp1
  rw [kq_up_at] at hsr1 hrr1
  have hlc1 : ∀ q ∈ ([] : List Loc) ++ L1, q.base = r := t_lL (free := fun q => q = r) (fun q h => by cases h) hL1
  refine lv_iconst (v := nI 1) hx hb d_Mo_plus_1_6 (by decide) ?_
  refine lv_icmp_eq hx hb d_Mo_plus_1_7 rfl (fun hc => ?_) (fun hc => ?_)
  · have h1 : (v a + v b) / kw_M 8 = 1 := (kx_n1 (by omega)).mp hc
    rw [if_pos (Or.inl h1)] at key
    refine lv_aload_n hx hb d_Mo_plus_1_20 rfl (lv_at hl 0 rfl) ?_
    refine lv_aload_n hx hb d_Mo_plus_1_21 rfl (lv_at hl 0 rfl) ?_
    refine kq_gets hx hb hts (ks_zat hW1 hC.2.1) hown kt_w453 d_Mo_plus_1_22 ?_
    refine kq_call (va_runS (As := [.ref r, .ref r, .ref (A 0)]) (rest := []) ⟨hx, hb, hml, hown, hts⟩ (c_Mo_sub l _ (ks_c E) r r (A 0) ((v a + v b) % kw_M 8) ((v a + v b) % kw_M 8) kP hX8 hX8 hlp1 hrr1) (va_cwS 3 hts (kt_inS kt_w475 kt_w473 kt_w474 kt_w5) rfl rfl rfl (by decide +kernel) ⟨Nat.le_of_ble_eq_true rfl, Nat.le_of_ble_eq_true rfl⟩) (kq_preS (kq_st_A.both (kq_st_r.both kq_st_r)) (⟨hT, hsr1, hsp1⟩)) rfl rfl hl.1 rfl (lv_room (Nat.le_of_ble_eq_true rfl)) d_Mo_plus_1_25 ⟨Nat.zero_le _, Nat.zero_le _⟩) (fun v9 H9 L3 hq9 hL3 => ?_)
    obtain ⟨rfl, rfl⟩ := hq9
    refine W.eq (g2 := F0 m 28 ls [.int (nI (18446744073709551616 - (if (v a + v b) % kw_M 8 < kP then 1 else 0)))]) rfl ?_
    refine kq_rH (kq_set_set _ _ _ _) ?_
    refine lv_pop hx hb d_Mo_plus_1_28 rfl ?_
    refine W.vret hx hb hret (fun t ht _ => ⟨_, rfl, rfl, ?_⟩) (t_lL (free := fun q => q = r) hlc1 hL3) d_Mo_plus_1_29
    rw [ht, ← key]
    exact ks_put hE hW hr (kw_sub_lt _ _)
  · have h1 : ¬ (v a + v b) / kw_M 8 = 1 := fun q => hc ((kx_n1 (by omega)).mpr q)
    refine lv_aload_n hx hb d_Mo_plus_1_10 rfl (lv_at hl 0 rfl) ?_
    refine kq_gets hx hb hts (ks_zat hW1 hC.2.1) hown kt_w453 d_Mo_plus_1_11 ?_
    refine kq_call (va_runS (As := [.ref r, .ref (A 0)]) (rest := []) ⟨hx, hb, hml, hown, hts⟩ (c_Mo_compare l _ r (A 0) ((v a + v b) % kw_M 8) kP hX8 hlp1) (va_cwS 2 hts (kt_inS kt_w465 kt_w463 kt_w464 kt_w5) rfl rfl rfl (by decide +kernel) ⟨Nat.le_of_ble_eq_true rfl, Nat.le_of_ble_eq_true rfl⟩) (kq_preS (kq_st_r.both kq_st_r) (⟨hsr1, hsp1⟩)) rfl rfl hl.1 rfl (lv_room (Nat.le_of_ble_eq_true rfl)) d_Mo_plus_1_14 ⟨Nat.zero_le _, Nat.zero_le _⟩) (fun v9 H9 L2 hq9 hL2 => ?_)
    obtain ⟨rfl, e9⟩ := hq9
    rw [e9]
    clear e9
    refine W.eq (g2 := F0 m 17 ls [.int (kx_cmp ((v a + v b) % kw_M 8) kP)]) rfl ?_
    have hlc2 := t_lL (free := fun q => q = r) hlc1 (fun q z => (hL2 q z).elim)
    refine lv_if_lt hx hb d_Mo_plus_1_17 rfl (fun hc3 => ?_) (fun hc3 => ?_)
    · have h2 := kx_cmp_lt.mp hc3
      rw [if_neg (fun q => q.elim h1 (fun z => by omega))] at key
      refine W.vret hx hb hret (fun t ht _ => ⟨_, rfl, rfl, ?_⟩) hlc2 d_Mo_plus_1_29
      rw [ht, ← key]
      exact hW1
    · have h2 : kP ≤ (v a + v b) % kw_M 8 := Nat.not_lt.mp (fun q => hc3 (kx_cmp_lt.mpr q))
      rw [if_pos (Or.inr h2)] at key
      refine lv_aload_n hx hb d_Mo_plus_1_20 rfl (lv_at hl 0 rfl) ?_
      refine lv_aload_n hx hb d_Mo_plus_1_21 rfl (lv_at hl 0 rfl) ?_
      refine kq_gets hx hb hts (ks_zat hW1 hC.2.1) hown kt_w453 d_Mo_plus_1_22 ?_
      refine kq_call (va_runS (As := [.ref r, .ref r, .ref (A 0)]) (rest := []) ⟨hx, hb, hml, hown, hts⟩ (c_Mo_sub l _ (ks_c E) r r (A 0) ((v a + v b) % kw_M 8) ((v a + v b) % kw_M 8) kP hX8 hX8 hlp1 hrr1) (va_cwS 3 hts (kt_inS kt_w475 kt_w473 kt_w474 kt_w5) rfl rfl rfl (by decide +kernel) ⟨Nat.le_of_ble_eq_true rfl, Nat.le_of_ble_eq_true rfl⟩) (kq_preS (kq_st_A.both (kq_st_r.both kq_st_r)) (⟨hT, hsr1, hsp1⟩)) rfl rfl hl.1 rfl (lv_room (Nat.le_of_ble_eq_true rfl)) d_Mo_plus_1_25 ⟨Nat.zero_le _, Nat.zero_le _⟩) (fun v9 H9 L3 hq9 hL3 => ?_)
      obtain ⟨rfl, rfl⟩ := hq9
      refine W.eq (g2 := F0 m 28 ls [.int (nI (18446744073709551616 - (if (v a + v b) % kw_M 8 < kP then 1 else 0)))]) rfl ?_
      refine kq_rH (kq_set_set _ _ _ _) ?_
      refine lv_pop hx hb d_Mo_plus_1_28 rfl ?_
      refine W.vret hx hb hret (fun t ht _ => ⟨_, rfl, rfl, ?_⟩) (t_lL (free := fun q => q = r) hlc2 hL3) d_Mo_plus_1_29
      rw [ht, ← key]
      exact ks_put hE hW hr (kw_sub_lt _ _)
