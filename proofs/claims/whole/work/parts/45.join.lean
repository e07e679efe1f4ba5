/-! KeyCurveModel: join (own rows). -/
/-- the point that the reference holds in rx, ry and isFar -/
def kx_pt (mo : Nat) (far : Bool) (w : Nat → Nat) : Option (Nat × Nat) := if far = true then none else some (w (mo + 26), w (mo + 27))
theorem kP_odd : kP % 2 = 1 := by decide +kernel
theorem kx_dbl {y : Nat} (h : y < kP) (h0 : y ≠ 0) : 0 < (y + y) % kP := by
  have h2 := kP_odd
  by_cases hlt : y + y < kP
  · rw [Nat.mod_eq_of_lt hlt]
    omega
  · rw [Nat.mod_eq_sub_mod (by omega), Nat.mod_eq_of_lt (by omega)]
    omega
theorem kx_dif_pos {a b : Nat} (ha : a < kP) (hb : b < kP) (h : b ≠ a) : 0 < kp_dif kP a b := by
  rw [← kx_minusm kP_M8.1 ha hb]
  by_cases q : a < b
  · rw [if_pos q, kx_sub_gt q hb kP_M8.1]
    exact Nat.sub_pos_of_lt (Nat.lt_of_lt_of_le hb (Nat.le_add_left _ _))
  · rw [if_neg q, kx_sub_le (Nat.le_of_not_lt q) (Nat.lt_trans ha kP_M8.1)]
    exact Nat.sub_pos_of_lt (Nat.lt_of_le_of_ne (Nat.le_of_not_lt q) h)
set_option maxHeartbeats 4000000 in
set_option maxRecDepth 100000 in
theorem c_Mo_join (l : Launch) (E : ks_E) (A : Nat → Nat) (mo : Nat) (cZ : ClassId) (far : Bool) (bs : Nat → Bool) (v : Nat → Nat) (H : Heap) (hE : ks_ok E) (hA : ks_A E A) (hG : ks_G E mo) (hF : ks_F E mo cZ far bs) (hW : ks_W E v H) (ax ay : Nat) (sm : Bool) (hax0 : ks_in E ax) (hay0 : ks_in E ay) (hna : ax ≠ mo + 19 ∧ ax ≠ mo + 20 ∧ ax ≠ mo + 22 ∧ ax ≠ mo + 23 ∧ ax ≠ mo + 24 ∧ ax ≠ mo + 25 ∧ ax ≠ mo + 27 ∧ ax ≠ mo + 30 ∧ ax ≠ mo + 31) (hny : ay ≠ mo + 26) (hlo : far = false → v (mo + 26) < kP ∧ v (mo + 27) < kP ∧ v ax < kP ∧ v ay < kP) : Met l y_Mo_join w_Mo_join ({ frames := 4, cells := 0, slots := 0, locals := 92 }) (kq_P [.ref mo, .ref ax, .ref ay, .int (kq_z sm)] H (ks_KZ E A mo cZ)) (kq_Q (fun o1 H1 => o1 = none ∧ ∃ (far2 : Bool) (w : Nat → Nat), ks_X E mo cZ far2 bs w H1 ∧ kx_pt mo far2 w = (if sm = true then kc_twice (kx_pt mo far v) else kc_join (kx_pt mo far v) (v ax) (v ay)) ∧ ∀ q, ¬ ks_fr mo q → w q = v q)) 0 0 (fun q => q = mo ∨ ks_fr mo q) := by
  refine Met.ofW (cc := b_Mo_join) (maxL := 5) (ret := none) (by decide) rfl ?_
  intro p e s m args below meth c s₁ B0 hml hv
  obtain ⟨rfl, hH, hKZ⟩ := hv
  have hx := B0.exec
  have hb := B0.bytes
  have hret := B0.returns
  have hts := atoms_spec (ws := w_Mo_join) B0.pre
  have hown : s.vm.findClass R_Mo = some m.cls := findClass_of_methodNamed B0.named
  have hlocks := B0.notSynchronized
  rw [hH]
  have hl := lv_entry ([.ref mo, .ref ax, .ref ay, .int (kq_z sm)]) (n := 5) (Nat.le_of_ble_eq_true rfl)
  rw [lg_entry_eq]
  generalize (lg_sl ([.ref mo, .ref ax, .ref ay, .int (kq_z sm)]) ++ List.replicate (5 - (lg_sl ([.ref mo, .ref ax, .ref ay, .int (kq_z sm)])).length) Slot.unset).toArray = ls at hl ⊢
  have hl : lv_has ls 5 [(0, .ref mo), (1, .ref ax), (2, .ref ay), (3, .int (kq_z sm))] := hl
  have hKK := hKZ.1
  have hC := hKK.1
  have hB := hC.1
  have hK := hB.1
  have hT := ks_T hE hB
  have hO := hF.1
  have hOo := ks_obj hW hO.1 hO.2.1
  have hNn : H[mo + 16]? = some (kq_B cZ bs) := (hW.2.2.1 _ hF.2.2.1).trans hF.2.1
  have hzr : kq_r s .boolean H (mo + 16) 4 (fun j => .int (kq_z (bs j))) := kq_r.ofV hKZ.2 hNn
  have har := hKK.2.1.other (hW.2.2.1 (mo + 1) hG.2.1)
  have hax := hKK.2.2.1.other (hW.2.2.1 (mo + 6) hG.2.2.1)
  have hay := hKK.2.2.2.other (hW.2.2.1 (mo + 11) hG.2.2.2)
  have r23 := hO.2.2.1 23 (by decide) (by decide) (by decide)
  have r24 := hO.2.2.1 24 (by decide) (by decide) (by decide)
  have r26 := hO.2.2.1 26 (by decide) (by decide) (by decide)
  have r27 := hO.2.2.1 27 (by decide) (by decide) (by decide)
  have hlc0 : ∀ q ∈ ([] : List Loc), q.base = mo ∨ ks_fr mo q.base := fun q h => by cases h
  have s26 := ks_src hE hW hB (Or.inl r26)
  have s27 := ks_src hE hW hB (Or.inl r27)
  have b26 := ks_lt hE hW (Or.inl r26)
  have b27 := ks_lt hE hW (Or.inl r27)
  have sx := ks_src hE hW hB hax0
  have sy := ks_src hE hW hB hay0
  have bx := ks_lt hE hW hax0
  have bY := ks_lt hE hW hay0
  refine lv_aload_n hx hb d_Mo_join_0 rfl (lv_at hl 0 rfl) ?_
  refine kq_get hx hb hts kt_F_Mo hown hK hOo rfl 17 (by decide) kt_w393 rfl d_Mo_join_1 ?_
  refine lv_if_eq hx hb d_Mo_join_4 rfl (fun hf => ?_) (fun hf => ?_)
  · have hfar := kq_z_b0 hf
    obtain ⟨h26, h27, hxl, hyl⟩ := hlo hfar
    have hpt : kx_pt mo far v = some (v (mo + 26), v (mo + 27)) := by unfold kx_pt; rw [if_neg (by rw [hfar]; decide)]
    refine lv_iload_n hx hb d_Mo_join_34 rfl (lv_at hl 3 rfl) ?_
    refine lv_if_ne hx hb d_Mo_join_35 rfl (fun hs => ?_) (fun hs => ?_)
    · have hsm := kq_z_b1 hs
      subst hsm
      refine lv_iconst (v := nI 1) hx hb d_Mo_join_49 (by decide) ?_
      refine lv_goto hx hb d_Mo_join_50 rfl ?_
      refine kq_ri (show nI 1 = kq_z true from rfl) ?_
      refine lv_istore hx hb d_Mo_join_54 hl (by decide) rfl (fun ls hl => ?_)
      have hl : lv_has ls 5 [(4, .int (kq_z true)), (0, .ref mo), (1, .ref ax), (2, .ref ay), (3, .int (kq_z true))] := hl
      refine lv_iload hx hb d_Mo_join_56 (lv_at hl 0 rfl) ?_
      refine lv_if_eq hx hb d_Mo_join_58 rfl (fun hq => ?_) (fun hq => ?_)
      · exact absurd hq (by decide)
      · refine lv_iload_n hx hb d_Mo_join_61 rfl (lv_at hl 4 rfl) ?_
        refine lv_if_ne hx hb d_Mo_join_62 rfl (fun hr => ?_) (fun hr => ?_)
        · refine lv_aload_n hx hb d_Mo_join_76 rfl (lv_at hl 1 rfl) ?_
          refine kq_get hx hb hts kt_F_Mo hown hK hOo rfl 14 (by decide) kt_w390 rfl d_Mo_join_77 ?_
          refine kq_call (va_runS (As := [.ref (mo + 27)]) (rest := []) ⟨hx, hb, hml, hown, hts⟩ (c_Mo_isZero l H (mo + 27) (v (mo + 27)) b27) (va_cwS 1 hts (kt_inS kt_w507 kt_w505 kt_w506 kt_w5) rfl rfl rfl (by decide +kernel) ⟨Nat.le_of_ble_eq_true rfl, Nat.le_of_ble_eq_true rfl⟩) (kq_preS (kq_st_r) (s27)) rfl rfl hl.1 rfl (lv_room (Nat.le_of_ble_eq_true rfl)) d_Mo_join_80 ⟨Nat.zero_le _, Nat.zero_le _⟩) (fun v9 H9 L7 hq9 hL7 => ?_)
          obtain ⟨rfl, e9⟩ := hq9
          rw [e9]
          clear e9
          refine W.eq (g2 := F0 m 83 ls [.int (kq_z (decide (v (mo + 27) = 0)))]) rfl ?_
          have hlc1 := t_lL (free := (fun q => q = mo ∨ ks_fr mo q)) hlc0 (fun q z => (hL7 q z).elim)
          refine lv_if_eq hx hb d_Mo_join_83 rfl (fun hq0 => ?_) (fun hq0 => ?_)
          · have hy0 := kq_z_eq.mp hq0
            refine lv_iload hx hb d_Mo_join_92 (lv_at hl 0 rfl) ?_
            refine lv_if_eq hx hb d_Mo_join_94 rfl (fun hq1 => ?_) (fun hq1 => ?_)
            · exact absurd hq1 (by decide)
            · refine lv_aload_n hx hb d_Mo_join_97 rfl (lv_at hl 1 rfl) ?_
              refine lv_aload_n hx hb d_Mo_join_98 rfl (lv_at hl 1 rfl) ?_
              refine kq_get hx hb hts kt_F_Mo hown hK hOo rfl 10 (by decide) kt_w386 rfl d_Mo_join_99 ?_
              refine lv_aload_n hx hb d_Mo_join_102 rfl (lv_at hl 1 rfl) ?_
              refine kq_get hx hb hts kt_F_Mo hown hK hOo rfl 13 (by decide) kt_w389 rfl d_Mo_join_103 ?_
              refine lv_aload_n hx hb d_Mo_join_106 rfl (lv_at hl 1 rfl) ?_
              refine kq_get hx hb hts kt_F_Mo hown hK hOo rfl 13 (by decide) kt_w389 rfl d_Mo_join_107 ?_
              refine kq_call (va_runV (As := [.ref (mo + 23), .ref (mo + 26), .ref (mo + 26)]) (rest := []) ⟨hx, hb, hml, hown, hts⟩ (c_Mo_times_1 l E A mo far v H hE hA hO hW (mo + 23) (mo + 26) (mo + 26) r23 (Or.inl r26) (Or.inl r26)) (cwV 3 hts (kt_inV kt_w499 kt_w496 kt_w498 kt_s13 kt_w5) rfl rfl rfl (by decide +kernel) ⟨Nat.le_of_ble_eq_true rfl, Nat.le_of_ble_eq_true rfl⟩) (kq_preV ((ks_C_st E A)) (hC) (kq_recv hK hOo rfl)) rfl rfl hl.1 rfl (lv_room (Nat.le_of_ble_eq_true rfl)) d_Mo_join_110 ⟨Nat.zero_le _, Nat.zero_le _⟩) (fun v9 H3 L3 hq3 hL3 => ?_)
              obtain ⟨rfl, w3, hW3, e3, o3⟩ := hq3
              refine W.eq (g2 := F0 m 113 ls []) rfl ?_
              have hO3 := ks_obj hW3 hO.1 hO.2.1
              have m3 : w3 (mo + 23) < kP := by rw [e3]; exact Nat.mod_lt _ (by decide)
              have hlc2 := t_lL (free := (fun q => q = mo ∨ ks_fr mo q)) hlc1 (fun q z => Or.inr (by rcases hL3 q z with y | y <;> (rw [y]; unfold ks_fr; omega)))
              refine lv_aload_n hx hb d_Mo_join_113 rfl (lv_at hl 1 rfl) ?_
              refine kq_get hx hb hts kt_F_Mo hown hK hO3 rfl 11 (by decide) kt_w387 rfl d_Mo_join_114 ?_
              refine lv_aload_n hx hb d_Mo_join_117 rfl (lv_at hl 1 rfl) ?_
              refine kq_get hx hb hts kt_F_Mo hown hK hO3 rfl 10 (by decide) kt_w386 rfl d_Mo_join_118 ?_
              refine lv_aload_n hx hb d_Mo_join_121 rfl (lv_at hl 1 rfl) ?_
              refine kq_get hx hb hts kt_F_Mo hown hK hO3 rfl 10 (by decide) kt_w386 rfl d_Mo_join_122 ?_
              refine kq_call (va_runS (As := [.ref (mo + 24), .ref (mo + 23), .ref (mo + 23)]) (rest := []) ⟨hx, hb, hml, hown, hts⟩ (c_Mo_plus_1 l E A w3 H3 hE hA hW3 (mo + 24) (mo + 23) (mo + 23) r24 (Or.inl r23) (Or.inl r23) (m3) (m3)) (va_cwS 3 hts (kt_inS kt_w558 kt_w556 kt_w557 kt_w5) rfl rfl rfl (by decide +kernel) ⟨Nat.le_of_ble_eq_true rfl, Nat.le_of_ble_eq_true rfl⟩) (kq_preS ((ks_C_st E A)) (hC)) rfl rfl hl.1 rfl (lv_room (Nat.le_of_ble_eq_true rfl)) d_Mo_join_125 ⟨Nat.zero_le _, Nat.zero_le _⟩) (fun v9 H4 L4 hq4 hL4 => ?_)
              obtain ⟨rfl, hX4⟩ := hq4
              refine W.eq (g2 := F0 m 128 ls []) rfl ?_
              obtain ⟨w4, e4, o4, hW4⟩ : ∃ w : Nat → Nat, w (mo + 24) = (w3 (mo + 23) + w3 (mo + 23)) % kP ∧ (∀ q, q ≠ mo + 24 → w q = w3 q) ∧ ks_W E w H4 := ⟨_, kq_up_at, fun q hq => kq_up_ne hq, hX4⟩
              have hO4 := ks_obj hW4 hO.1 hO.2.1
              have hlc3 := t_lL (free := (fun q => q = mo ∨ ks_fr mo q)) hlc2 (fun q z => Or.inr (by rw [hL4 q z]; unfold ks_fr; omega))
              rw [e3] at e4
              refine lv_aload_n hx hb d_Mo_join_128 rfl (lv_at hl 1 rfl) ?_
              refine kq_get hx hb hts kt_F_Mo hown hK hO4 rfl 10 (by decide) kt_w386 rfl d_Mo_join_129 ?_
              refine lv_aload_n hx hb d_Mo_join_132 rfl (lv_at hl 1 rfl) ?_
              refine kq_get hx hb hts kt_F_Mo hown hK hO4 rfl 10 (by decide) kt_w386 rfl d_Mo_join_133 ?_
              refine lv_aload_n hx hb d_Mo_join_136 rfl (lv_at hl 1 rfl) ?_
              refine kq_get hx hb hts kt_F_Mo hown hK hO4 rfl 11 (by decide) kt_w387 rfl d_Mo_join_137 ?_
              refine kq_call (va_runS (As := [.ref (mo + 23), .ref (mo + 23), .ref (mo + 24)]) (rest := []) ⟨hx, hb, hml, hown, hts⟩ (c_Mo_plus_1 l E A w4 H4 hE hA hW4 (mo + 23) (mo + 23) (mo + 24) r23 (Or.inl r23) (Or.inl r24) (by rw [o4 _ (by omega)]; exact m3) (by rw [e4]; exact Nat.mod_lt _ (by decide))) (va_cwS 3 hts (kt_inS kt_w558 kt_w556 kt_w557 kt_w5) rfl rfl rfl (by decide +kernel) ⟨Nat.le_of_ble_eq_true rfl, Nat.le_of_ble_eq_true rfl⟩) (kq_preS ((ks_C_st E A)) (hC)) rfl rfl hl.1 rfl (lv_room (Nat.le_of_ble_eq_true rfl)) d_Mo_join_140 ⟨Nat.zero_le _, Nat.zero_le _⟩) (fun v9 H5 L5 hq5 hL5 => ?_)
              obtain ⟨rfl, hX5⟩ := hq5
              refine W.eq (g2 := F0 m 143 ls []) rfl ?_
              obtain ⟨w5, e5, o5, hW5⟩ : ∃ w : Nat → Nat, w (mo + 23) = (w4 (mo + 23) + w4 (mo + 24)) % kP ∧ (∀ q, q ≠ mo + 23 → w q = w4 q) ∧ ks_W E w H5 := ⟨_, kq_up_at, fun q hq => kq_up_ne hq, hX5⟩
              have hO5 := ks_obj hW5 hO.1 hO.2.1
              have hlc4 := t_lL (free := (fun q => q = mo ∨ ks_fr mo q)) hlc3 (fun q z => Or.inr (by rw [hL5 q z]; unfold ks_fr; omega))
              rw [o4 (mo + 23) (by omega), e3, e4] at e5
              have j27 : w5 (mo + 27) = v (mo + 27) := by rw [o5 _ (by omega), o4 _ (by omega), o3 _ (by omega) (by omega)]
              refine lv_aload_n hx hb d_Mo_join_143 rfl (lv_at hl 1 rfl) ?_
              refine kq_get hx hb hts kt_F_Mo hown hK hO5 rfl 11 (by decide) kt_w387 rfl d_Mo_join_144 ?_
              refine lv_aload_n hx hb d_Mo_join_147 rfl (lv_at hl 1 rfl) ?_
              refine kq_get hx hb hts kt_F_Mo hown hK hO5 rfl 14 (by decide) kt_w390 rfl d_Mo_join_148 ?_
              refine lv_aload_n hx hb d_Mo_join_151 rfl (lv_at hl 1 rfl) ?_
              refine kq_get hx hb hts kt_F_Mo hown hK hO5 rfl 14 (by decide) kt_w390 rfl d_Mo_join_152 ?_
              refine kq_call (va_runS (As := [.ref (mo + 24), .ref (mo + 27), .ref (mo + 27)]) (rest := []) ⟨hx, hb, hml, hown, hts⟩ (c_Mo_plus_1 l E A w5 H5 hE hA hW5 (mo + 24) (mo + 27) (mo + 27) r24 (Or.inl r27) (Or.inl r27) (by rw [j27]; exact h27) (by rw [j27]; exact h27)) (va_cwS 3 hts (kt_inS kt_w558 kt_w556 kt_w557 kt_w5) rfl rfl rfl (by decide +kernel) ⟨Nat.le_of_ble_eq_true rfl, Nat.le_of_ble_eq_true rfl⟩) (kq_preS ((ks_C_st E A)) (hC)) rfl rfl hl.1 rfl (lv_room (Nat.le_of_ble_eq_true rfl)) d_Mo_join_155 ⟨Nat.zero_le _, Nat.zero_le _⟩) (fun v9 H6 L6 hq6 hL6 => ?_)
              obtain ⟨rfl, hX6⟩ := hq6
              refine W.eq (g2 := F0 m 158 ls []) rfl ?_
              obtain ⟨w6, e6, o6, hW6⟩ : ∃ w : Nat → Nat, w (mo + 24) = (w5 (mo + 27) + w5 (mo + 27)) % kP ∧ (∀ q, q ≠ mo + 24 → w q = w5 q) ∧ ks_W E w H6 := ⟨_, kq_up_at, fun q hq => kq_up_ne hq, hX6⟩
              have hO6 := ks_obj hW6 hO.1 hO.2.1
              have hlc5 := t_lL (free := (fun q => q = mo ∨ ks_fr mo q)) hlc4 (fun q z => Or.inr (by rw [hL6 q z]; unfold ks_fr; omega))
              rw [j27] at e6
              have g23 : w6 (mo + 23) = (v (mo + 26) * v (mo + 26) % kP + (v (mo + 26) * v (mo + 26) % kP + v (mo + 26) * v (mo + 26) % kP) % kP) % kP := by rw [o6 _ (by omega), e5]
              have g24 := e6
              have g26 : w6 (mo + 26) = v (mo + 26) := by rw [o6 _ (by omega), o5 _ (by omega), o4 _ (by omega), o3 _ (by omega) (by omega)]
              have g27 : w6 (mo + 27) = v (mo + 27) := by rw [o6 _ (by omega), j27]
              have l23 : (v (mo + 26) * v (mo + 26) % kP + (v (mo + 26) * v (mo + 26) % kP + v (mo + 26) * v (mo + 26) % kP) % kP) % kP < kP := Nat.mod_lt _ (by decide)
              have l24 : (v (mo + 27) + v (mo + 27)) % kP < kP := Nat.mod_lt _ (by decide)
              have p24 := kx_dbl h27 hy0
              have gk : ∀ q, ¬ ks_fr mo q → w6 q = v q := fun q hq => by
                unfold ks_fr at hq
                rw [o6 q (by omega), o5 q (by omega), o4 q (by omega), o3 q (by omega) (by omega)]
              refine lv_goto hx hb d_Mo_join_158 rfl ?_
              refine lt_Mo_join hx hb hts hown hml (Nat.le_of_ble_eq_true rfl) (Nat.le_of_ble_eq_true rfl) hE hO hB hA hC (v := w6) (bx := v (mo + 26)) (sm := true) hax0 hna (by rw [g23]; exact l23) (by rw [g24]; exact l24) (by rw [g24]; exact p24) (by rw [g26]; exact h26) (by rw [g27]; exact h27) (h26) (fun _ => g26) (fun z => by cases z) (fun w9 H9 ls L9 hW9 f26 f27 k9 hL9 => ?_) H6 ls _ hW6 hlc5 (lv_sub hl [0, 1, 2] rfl)
              rw [g23, g24, g26, g27] at f26 f27
              refine W.vret hx hb hret (fun t ht _ => ⟨_, rfl, rfl, far, w9, by rw [ht]; exact ks_X_self hW9 hF, ?_, fun q hq => by rw [k9 q hq]; exact gk q hq⟩) hL9 d_Mo_join_328
              · have hpw : kx_pt mo far w9 = some (w9 (mo + 26), w9 (mo + 27)) := by unfold kx_pt; rw [if_neg (by rw [hfar]; decide)]
                rw [hpw, f26, f27, hpt, if_pos rfl, kc_twice_some, if_neg hy0]
          · have hy0 := kq_z_ne.mp hq0
            refine lv_aload_n hx hb d_Mo_join_86 rfl (lv_at hl 1 rfl) ?_
            refine lv_iconst (v := nI 1) hx hb d_Mo_join_87 (by decide) ?_
            refine kq_ri (show nI 1 = kq_z true from rfl) ?_
            refine kq_put hx hb hts kt_F_Mo t_Mo t_Mo_ok n_Mo hown hK hOo rfl 17 (by decide) kt_w393 rfl (ty := .boolean) (by decide +kernel) (kx_nz _) (kx_fz _) (Nat.le_of_ble_eq_true rfl) d_Mo_join_88 (fun H8 L8 hP8 hz8 ho8 hL8 => ?_)
            have hX8 := ks_X_new (far2 := true) (bs2 := bs) hW hF hz8 (fun x x1 _ => ho8 x x1) hP8 ((ho8 (mo + 16) (by omega)).trans ((hW.2.2.1 _ hF.2.2.1).trans hF.2.1))
            exact W.vret hx hb hret (fun t ht _ => ⟨_, rfl, rfl, true, _, by rw [ht]; exact hX8, by rw [hpt, if_pos rfl, kc_twice_some, if_pos hy0]; rfl, fun _ _ => rfl⟩) (t_lL (free := (fun q => q = mo ∨ ks_fr mo q)) hlc1 (fun q z => Or.inl (hL8 q z))) d_Mo_join_91
        · exact absurd rfl (fun (z : kq_z true = kq_z true) => absurd hr (by decide))
    · have hsm := kq_z_b0 hs
      subst hsm
      refine lv_aload_n hx hb d_Mo_join_38 rfl (lv_at hl 0 rfl) ?_
      refine kq_get hx hb hts kt_F_Mo hown hK hOo rfl 13 (by decide) kt_w389 rfl d_Mo_join_39 ?_
      refine lv_aload_n hx hb d_Mo_join_42 rfl (lv_at hl 1 rfl) ?_
      refine kq_call (va_runS (As := [.ref (mo + 26), .ref ax]) (rest := []) ⟨hx, hb, hml, hown, hts⟩ (c_Mo_compare l H (mo + 26) ax (v (mo + 26)) (v ax) b26 bx) (va_cwS 2 hts (kt_inS kt_w465 kt_w463 kt_w464 kt_w5) rfl rfl rfl (by decide +kernel) ⟨Nat.le_of_ble_eq_true rfl, Nat.le_of_ble_eq_true rfl⟩) (kq_preS (kq_st_r.both kq_st_r) (⟨s26, sx⟩)) rfl rfl hl.1 rfl (lv_room (Nat.le_of_ble_eq_true rfl)) d_Mo_join_43 ⟨Nat.zero_le _, Nat.zero_le _⟩) (fun v9 H9 L1 hq9 hL1 => ?_)
      obtain ⟨rfl, e9⟩ := hq9
      rw [e9]
      clear e9
      refine W.eq (g2 := F0 m 46 ls [.int (kx_cmp (v (mo + 26)) (v ax))]) rfl ?_
      have hlc1 := t_lL (free := (fun q => q = mo ∨ ks_fr mo q)) hlc0 (fun q z => (hL1 q z).elim)
      refine lv_if_ne hx hb d_Mo_join_46 rfl (fun hxx => ?_) (fun hxx => ?_)
      · have hne : v (mo + 26) ≠ v ax := fun z => hxx (kx_cmp_0.mpr z)
        refine lv_iconst (v := nI 0) hx hb d_Mo_join_53 (by decide) ?_
        refine kq_ri (show nI 0 = kq_z false from rfl) ?_
        refine lv_istore hx hb d_Mo_join_54 hl (by decide) rfl (fun ls hl => ?_)
        have hl : lv_has ls 5 [(4, .int (kq_z false)), (0, .ref mo), (1, .ref ax), (2, .ref ay), (3, .int (kq_z false))] := hl
        refine lv_iload hx hb d_Mo_join_56 (lv_at hl 0 rfl) ?_
        refine lv_if_eq hx hb d_Mo_join_58 rfl (fun hq => ?_) (fun hq => ?_)
        · refine lv_iload hx hb d_Mo_join_92 (lv_at hl 0 rfl) ?_
          refine lv_if_eq hx hb d_Mo_join_94 rfl (fun hq1 => ?_) (fun hq1 => ?_)
          · refine lv_aload_n hx hb d_Mo_join_161 rfl (lv_at hl 1 rfl) ?_
            refine kq_get hx hb hts kt_F_Mo hown hK hOo rfl 10 (by decide) kt_w386 rfl d_Mo_join_162 ?_
            refine lv_aload_n hx hb d_Mo_join_165 rfl (lv_at hl 3 rfl) ?_
            refine lv_aload_n hx hb d_Mo_join_166 rfl (lv_at hl 1 rfl) ?_
            refine kq_get hx hb hts kt_F_Mo hown hK hOo rfl 14 (by decide) kt_w390 rfl d_Mo_join_167 ?_
            refine kq_call (va_runS (As := [.ref (mo + 23), .ref ay, .ref (mo + 27)]) (rest := []) ⟨hx, hb, hml, hown, hts⟩ (c_Mo_minus l E A v H hE hA hW (mo + 23) ay (mo + 27) r23 (hay0) (Or.inl r27) (hyl) (h27)) (va_cwS 3 hts (kt_inS kt_w581 kt_w579 kt_w580 kt_w5) rfl rfl rfl (by decide +kernel) ⟨Nat.le_of_ble_eq_true rfl, Nat.le_of_ble_eq_true rfl⟩) (kq_preS ((ks_C_st E A)) (hC)) rfl rfl hl.1 rfl (lv_room (Nat.le_of_ble_eq_true rfl)) d_Mo_join_170 ⟨Nat.zero_le _, Nat.zero_le _⟩) (fun v9 H3 L3 hq3 hL3 => ?_)
            obtain ⟨rfl, hX3⟩ := hq3
            refine W.eq (g2 := F0 m 173 ls []) rfl ?_
            obtain ⟨w3, e3, o3, hW3⟩ : ∃ w : Nat → Nat, w (mo + 23) = kp_dif kP (v ay) (v (mo + 27)) ∧ (∀ q, q ≠ mo + 23 → w q = v q) ∧ ks_W E w H3 := ⟨_, kq_up_at, fun q hq => kq_up_ne hq, hX3⟩
            have hO3 := ks_obj hW3 hO.1 hO.2.1
            have hlc2 := t_lL (free := (fun q => q = mo ∨ ks_fr mo q)) hlc1 (fun q z => Or.inr (by rw [hL3 q z]; unfold ks_fr; omega))
            have jx : w3 ax = v ax := o3 _ hna.2.2.2.1
            have j26 : w3 (mo + 26) = v (mo + 26) := o3 _ (by omega)
            refine lv_aload_n hx hb d_Mo_join_173 rfl (lv_at hl 1 rfl) ?_
            refine kq_get hx hb hts kt_F_Mo hown hK hO3 rfl 11 (by decide) kt_w387 rfl d_Mo_join_174 ?_
            refine lv_aload_n hx hb d_Mo_join_177 rfl (lv_at hl 2 rfl) ?_
            refine lv_aload_n hx hb d_Mo_join_178 rfl (lv_at hl 1 rfl) ?_
            refine kq_get hx hb hts kt_F_Mo hown hK hO3 rfl 13 (by decide) kt_w389 rfl d_Mo_join_179 ?_
            refine kq_call (va_runS (As := [.ref (mo + 24), .ref ax, .ref (mo + 26)]) (rest := []) ⟨hx, hb, hml, hown, hts⟩ (c_Mo_minus l E A w3 H3 hE hA hW3 (mo + 24) ax (mo + 26) r24 (hax0) (Or.inl r26) (by rw [jx]; exact hxl) (by rw [j26]; exact h26)) (va_cwS 3 hts (kt_inS kt_w581 kt_w579 kt_w580 kt_w5) rfl rfl rfl (by decide +kernel) ⟨Nat.le_of_ble_eq_true rfl, Nat.le_of_ble_eq_true rfl⟩) (kq_preS ((ks_C_st E A)) (hC)) rfl rfl hl.1 rfl (lv_room (Nat.le_of_ble_eq_true rfl)) d_Mo_join_182 ⟨Nat.zero_le _, Nat.zero_le _⟩) (fun v9 H4 L4 hq4 hL4 => ?_)
            obtain ⟨rfl, hX4⟩ := hq4
            refine W.eq (g2 := F0 m 185 ls []) rfl ?_
            obtain ⟨w4, e4, o4, hW4⟩ : ∃ w : Nat → Nat, w (mo + 24) = kp_dif kP (w3 ax) (w3 (mo + 26)) ∧ (∀ q, q ≠ mo + 24 → w q = w3 q) ∧ ks_W E w H4 := ⟨_, kq_up_at, fun q hq => kq_up_ne hq, hX4⟩
            have hO4 := ks_obj hW4 hO.1 hO.2.1
            have hlc3 := t_lL (free := (fun q => q = mo ∨ ks_fr mo q)) hlc2 (fun q z => Or.inr (by rw [hL4 q z]; unfold ks_fr; omega))
            rw [jx, j26] at e4
            have g23 : w4 (mo + 23) = kp_dif kP (v ay) (v (mo + 27)) := by rw [o4 _ (by omega), e3]
            have g24 := e4
            have g26 : w4 (mo + 26) = v (mo + 26) := by rw [o4 _ (by omega), j26]
            have g27 : w4 (mo + 27) = v (mo + 27) := by rw [o4 _ (by omega), o3 _ (by omega)]
            have gx : w4 ax = v ax := by rw [o4 _ hna.2.2.2.2.1, jx]
            have l23 : kp_dif kP (v ay) (v (mo + 27)) < kP := kp_dif_lt kP_pos
            have l24 : kp_dif kP (v ax) (v (mo + 26)) < kP := kp_dif_lt kP_pos
            have p24 := kx_dif_pos hxl h26 hne
            have gk : ∀ q, ¬ ks_fr mo q → w4 q = v q := fun q hq => by
              unfold ks_fr at hq
              rw [o4 q (by omega), o3 q (by omega)]
            refine lt_Mo_join hx hb hts hown hml (Nat.le_of_ble_eq_true rfl) (Nat.le_of_ble_eq_true rfl) hE hO hB hA hC (v := w4) (bx := v ax) (sm := false) hax0 hna (by rw [g23]; exact l23) (by rw [g24]; exact l24) (by rw [g24]; exact p24) (by rw [g26]; exact h26) (by rw [g27]; exact h27) (hxl) (fun z => by cases z) (fun _ => gx) (fun w9 H9 ls L9 hW9 f26 f27 k9 hL9 => ?_) H4 ls _ hW4 hlc3 (lv_sub hl [0, 1, 2] rfl)
            rw [g23, g24, g26, g27] at f26 f27
            refine W.vret hx hb hret (fun t ht _ => ⟨_, rfl, rfl, far, w9, by rw [ht]; exact ks_X_self hW9 hF, ?_, fun q hq => by rw [k9 q hq]; exact gk q hq⟩) hL9 d_Mo_join_328
            · have hpw : kx_pt mo far w9 = some (w9 (mo + 26), w9 (mo + 27)) := by unfold kx_pt; rw [if_neg (by rw [hfar]; decide)]
              rw [hpw, f26, f27, hpt, if_neg (by decide), kc_join_some, if_neg hne]
          · exact absurd rfl hq1
        · exact absurd rfl hq
      · have hxe := kx_cmp_0.mp hxx
        refine lv_iconst (v := nI 1) hx hb d_Mo_join_49 (by decide) ?_
        refine lv_goto hx hb d_Mo_join_50 rfl ?_
        refine kq_ri (show nI 1 = kq_z true from rfl) ?_
        refine lv_istore hx hb d_Mo_join_54 hl (by decide) rfl (fun ls hl => ?_)
        have hl : lv_has ls 5 [(4, .int (kq_z true)), (0, .ref mo), (1, .ref ax), (2, .ref ay), (3, .int (kq_z false))] := hl
        refine lv_iload hx hb d_Mo_join_56 (lv_at hl 0 rfl) ?_
        refine lv_if_eq hx hb d_Mo_join_58 rfl (fun hq => ?_) (fun hq => ?_)
        · exact absurd hq (by decide)
        · refine lv_iload_n hx hb d_Mo_join_61 rfl (lv_at hl 4 rfl) ?_
          refine lv_if_ne hx hb d_Mo_join_62 rfl (fun hr => ?_) (fun hr => ?_)
          · exact absurd rfl hr
          · refine lv_aload_n hx hb d_Mo_join_65 rfl (lv_at hl 1 rfl) ?_
            refine kq_get hx hb hts kt_F_Mo hown hK hOo rfl 14 (by decide) kt_w390 rfl d_Mo_join_66 ?_
            refine lv_aload_n hx hb d_Mo_join_69 rfl (lv_at hl 3 rfl) ?_
            refine kq_call (va_runS (As := [.ref (mo + 27), .ref ay]) (rest := []) ⟨hx, hb, hml, hown, hts⟩ (c_Mo_compare l H (mo + 27) ay (v (mo + 27)) (v ay) b27 bY) (va_cwS 2 hts (kt_inS kt_w465 kt_w463 kt_w464 kt_w5) rfl rfl rfl (by decide +kernel) ⟨Nat.le_of_ble_eq_true rfl, Nat.le_of_ble_eq_true rfl⟩) (kq_preS (kq_st_r.both kq_st_r) (⟨s27, sy⟩)) rfl rfl hl.1 rfl (lv_room (Nat.le_of_ble_eq_true rfl)) d_Mo_join_70 ⟨Nat.zero_le _, Nat.zero_le _⟩) (fun v9 H9 L2 hq9 hL2 => ?_)
            obtain ⟨rfl, e9⟩ := hq9
            rw [e9]
            clear e9
            refine W.eq (g2 := F0 m 73 ls [.int (kx_cmp (v (mo + 27)) (v ay))]) rfl ?_
            have hlc2 := t_lL (free := (fun q => q = mo ∨ ks_fr mo q)) hlc1 (fun q z => (hL2 q z).elim)
            refine lv_if_ne hx hb d_Mo_join_73 rfl (fun hyy => ?_) (fun hyy => ?_)
            · have hyn : v (mo + 27) ≠ v ay := fun z => hyy (kx_cmp_0.mpr z)
              refine lv_aload_n hx hb d_Mo_join_86 rfl (lv_at hl 1 rfl) ?_
              refine lv_iconst (v := nI 1) hx hb d_Mo_join_87 (by decide) ?_
              refine kq_ri (show nI 1 = kq_z true from rfl) ?_
              refine kq_put hx hb hts kt_F_Mo t_Mo t_Mo_ok n_Mo hown hK hOo rfl 17 (by decide) kt_w393 rfl (ty := .boolean) (by decide +kernel) (kx_nz _) (kx_fz _) (Nat.le_of_ble_eq_true rfl) d_Mo_join_88 (fun H8 L8 hP8 hz8 ho8 hL8 => ?_)
              have hX8 := ks_X_new (far2 := true) (bs2 := bs) hW hF hz8 (fun x x1 _ => ho8 x x1) hP8 ((ho8 (mo + 16) (by omega)).trans ((hW.2.2.1 _ hF.2.2.1).trans hF.2.1))
              exact W.vret hx hb hret (fun t ht _ => ⟨_, rfl, rfl, true, _, by rw [ht]; exact hX8, by rw [hpt, if_neg (by decide), kc_join_some, if_pos hxe, if_neg hyn]; rfl, fun _ _ => rfl⟩) (t_lL (free := (fun q => q = mo ∨ ks_fr mo q)) hlc2 (fun q z => Or.inl (hL8 q z))) d_Mo_join_91
            · have hye := kx_cmp_0.mp hyy
              refine lv_aload_n hx hb d_Mo_join_76 rfl (lv_at hl 1 rfl) ?_
              refine kq_get hx hb hts kt_F_Mo hown hK hOo rfl 14 (by decide) kt_w390 rfl d_Mo_join_77 ?_
              refine kq_call (va_runS (As := [.ref (mo + 27)]) (rest := []) ⟨hx, hb, hml, hown, hts⟩ (c_Mo_isZero l H (mo + 27) (v (mo + 27)) b27) (va_cwS 1 hts (kt_inS kt_w507 kt_w505 kt_w506 kt_w5) rfl rfl rfl (by decide +kernel) ⟨Nat.le_of_ble_eq_true rfl, Nat.le_of_ble_eq_true rfl⟩) (kq_preS (kq_st_r) (s27)) rfl rfl hl.1 rfl (lv_room (Nat.le_of_ble_eq_true rfl)) d_Mo_join_80 ⟨Nat.zero_le _, Nat.zero_le _⟩) (fun v9 H9 L7 hq9 hL7 => ?_)
              obtain ⟨rfl, e9⟩ := hq9
              rw [e9]
              clear e9
              refine W.eq (g2 := F0 m 83 ls [.int (kq_z (decide (v (mo + 27) = 0)))]) rfl ?_
              have hlc3 := t_lL (free := (fun q => q = mo ∨ ks_fr mo q)) hlc2 (fun q z => (hL7 q z).elim)
              refine lv_if_eq hx hb d_Mo_join_83 rfl (fun hq0 => ?_) (fun hq0 => ?_)
              · have hy0 := kq_z_eq.mp hq0
                refine lv_iload hx hb d_Mo_join_92 (lv_at hl 0 rfl) ?_
                refine lv_if_eq hx hb d_Mo_join_94 rfl (fun hq1 => ?_) (fun hq1 => ?_)
                · exact absurd hq1 (by decide)
                · refine lv_aload_n hx hb d_Mo_join_97 rfl (lv_at hl 1 rfl) ?_
                  refine lv_aload_n hx hb d_Mo_join_98 rfl (lv_at hl 1 rfl) ?_
                  refine kq_get hx hb hts kt_F_Mo hown hK hOo rfl 10 (by decide) kt_w386 rfl d_Mo_join_99 ?_
                  refine lv_aload_n hx hb d_Mo_join_102 rfl (lv_at hl 1 rfl) ?_
                  refine kq_get hx hb hts kt_F_Mo hown hK hOo rfl 13 (by decide) kt_w389 rfl d_Mo_join_103 ?_
                  refine lv_aload_n hx hb d_Mo_join_106 rfl (lv_at hl 1 rfl) ?_
                  refine kq_get hx hb hts kt_F_Mo hown hK hOo rfl 13 (by decide) kt_w389 rfl d_Mo_join_107 ?_
                  refine kq_call (va_runV (As := [.ref (mo + 23), .ref (mo + 26), .ref (mo + 26)]) (rest := []) ⟨hx, hb, hml, hown, hts⟩ (c_Mo_times_1 l E A mo far v H hE hA hO hW (mo + 23) (mo + 26) (mo + 26) r23 (Or.inl r26) (Or.inl r26)) (cwV 3 hts (kt_inV kt_w499 kt_w496 kt_w498 kt_s13 kt_w5) rfl rfl rfl (by decide +kernel) ⟨Nat.le_of_ble_eq_true rfl, Nat.le_of_ble_eq_true rfl⟩) (kq_preV ((ks_C_st E A)) (hC) (kq_recv hK hOo rfl)) rfl rfl hl.1 rfl (lv_room (Nat.le_of_ble_eq_true rfl)) d_Mo_join_110 ⟨Nat.zero_le _, Nat.zero_le _⟩) (fun v9 H3 L3 hq3 hL3 => ?_)
                  obtain ⟨rfl, w3, hW3, e3, o3⟩ := hq3
                  refine W.eq (g2 := F0 m 113 ls []) rfl ?_
                  have hO3 := ks_obj hW3 hO.1 hO.2.1
                  have m3 : w3 (mo + 23) < kP := by rw [e3]; exact Nat.mod_lt _ (by decide)
                  have hlc4 := t_lL (free := (fun q => q = mo ∨ ks_fr mo q)) hlc3 (fun q z => Or.inr (by rcases hL3 q z with y | y <;> (rw [y]; unfold ks_fr; omega)))
                  refine lv_aload_n hx hb d_Mo_join_113 rfl (lv_at hl 1 rfl) ?_
                  refine kq_get hx hb hts kt_F_Mo hown hK hO3 rfl 11 (by decide) kt_w387 rfl d_Mo_join_114 ?_
                  refine lv_aload_n hx hb d_Mo_join_117 rfl (lv_at hl 1 rfl) ?_
                  refine kq_get hx hb hts kt_F_Mo hown hK hO3 rfl 10 (by decide) kt_w386 rfl d_Mo_join_118 ?_
                  refine lv_aload_n hx hb d_Mo_join_121 rfl (lv_at hl 1 rfl) ?_
                  refine kq_get hx hb hts kt_F_Mo hown hK hO3 rfl 10 (by decide) kt_w386 rfl d_Mo_join_122 ?_
                  refine kq_call (va_runS (As := [.ref (mo + 24), .ref (mo + 23), .ref (mo + 23)]) (rest := []) ⟨hx, hb, hml, hown, hts⟩ (c_Mo_plus_1 l E A w3 H3 hE hA hW3 (mo + 24) (mo + 23) (mo + 23) r24 (Or.inl r23) (Or.inl r23) (m3) (m3)) (va_cwS 3 hts (kt_inS kt_w558 kt_w556 kt_w557 kt_w5) rfl rfl rfl (by decide +kernel) ⟨Nat.le_of_ble_eq_true rfl, Nat.le_of_ble_eq_true rfl⟩) (kq_preS ((ks_C_st E A)) (hC)) rfl rfl hl.1 rfl (lv_room (Nat.le_of_ble_eq_true rfl)) d_Mo_join_125 ⟨Nat.zero_le _, Nat.zero_le _⟩) (fun v9 H4 L4 hq4 hL4 => ?_)
                  obtain ⟨rfl, hX4⟩ := hq4
                  refine W.eq (g2 := F0 m 128 ls []) rfl ?_
                  obtain ⟨w4, e4, o4, hW4⟩ : ∃ w : Nat → Nat, w (mo + 24) = (w3 (mo + 23) + w3 (mo + 23)) % kP ∧ (∀ q, q ≠ mo + 24 → w q = w3 q) ∧ ks_W E w H4 := ⟨_, kq_up_at, fun q hq => kq_up_ne hq, hX4⟩
                  have hO4 := ks_obj hW4 hO.1 hO.2.1
                  have hlc5 := t_lL (free := (fun q => q = mo ∨ ks_fr mo q)) hlc4 (fun q z => Or.inr (by rw [hL4 q z]; unfold ks_fr; omega))
                  rw [e3] at e4
                  refine lv_aload_n hx hb d_Mo_join_128 rfl (lv_at hl 1 rfl) ?_
                  refine kq_get hx hb hts kt_F_Mo hown hK hO4 rfl 10 (by decide) kt_w386 rfl d_Mo_join_129 ?_
                  refine lv_aload_n hx hb d_Mo_join_132 rfl (lv_at hl 1 rfl) ?_
                  refine kq_get hx hb hts kt_F_Mo hown hK hO4 rfl 10 (by decide) kt_w386 rfl d_Mo_join_133 ?_
                  refine lv_aload_n hx hb d_Mo_join_136 rfl (lv_at hl 1 rfl) ?_
                  refine kq_get hx hb hts kt_F_Mo hown hK hO4 rfl 11 (by decide) kt_w387 rfl d_Mo_join_137 ?_
                  refine kq_call (va_runS (As := [.ref (mo + 23), .ref (mo + 23), .ref (mo + 24)]) (rest := []) ⟨hx, hb, hml, hown, hts⟩ (c_Mo_plus_1 l E A w4 H4 hE hA hW4 (mo + 23) (mo + 23) (mo + 24) r23 (Or.inl r23) (Or.inl r24) (by rw [o4 _ (by omega)]; exact m3) (by rw [e4]; exact Nat.mod_lt _ (by decide))) (va_cwS 3 hts (kt_inS kt_w558 kt_w556 kt_w557 kt_w5) rfl rfl rfl (by decide +kernel) ⟨Nat.le_of_ble_eq_true rfl, Nat.le_of_ble_eq_true rfl⟩) (kq_preS ((ks_C_st E A)) (hC)) rfl rfl hl.1 rfl (lv_room (Nat.le_of_ble_eq_true rfl)) d_Mo_join_140 ⟨Nat.zero_le _, Nat.zero_le _⟩) (fun v9 H5 L5 hq5 hL5 => ?_)
                  obtain ⟨rfl, hX5⟩ := hq5
                  refine W.eq (g2 := F0 m 143 ls []) rfl ?_
                  obtain ⟨w5, e5, o5, hW5⟩ : ∃ w : Nat → Nat, w (mo + 23) = (w4 (mo + 23) + w4 (mo + 24)) % kP ∧ (∀ q, q ≠ mo + 23 → w q = w4 q) ∧ ks_W E w H5 := ⟨_, kq_up_at, fun q hq => kq_up_ne hq, hX5⟩
                  have hO5 := ks_obj hW5 hO.1 hO.2.1
                  have hlc6 := t_lL (free := (fun q => q = mo ∨ ks_fr mo q)) hlc5 (fun q z => Or.inr (by rw [hL5 q z]; unfold ks_fr; omega))
                  rw [o4 (mo + 23) (by omega), e3, e4] at e5
                  have j27 : w5 (mo + 27) = v (mo + 27) := by rw [o5 _ (by omega), o4 _ (by omega), o3 _ (by omega) (by omega)]
                  refine lv_aload_n hx hb d_Mo_join_143 rfl (lv_at hl 1 rfl) ?_
                  refine kq_get hx hb hts kt_F_Mo hown hK hO5 rfl 11 (by decide) kt_w387 rfl d_Mo_join_144 ?_
                  refine lv_aload_n hx hb d_Mo_join_147 rfl (lv_at hl 1 rfl) ?_
                  refine kq_get hx hb hts kt_F_Mo hown hK hO5 rfl 14 (by decide) kt_w390 rfl d_Mo_join_148 ?_
                  refine lv_aload_n hx hb d_Mo_join_151 rfl (lv_at hl 1 rfl) ?_
                  refine kq_get hx hb hts kt_F_Mo hown hK hO5 rfl 14 (by decide) kt_w390 rfl d_Mo_join_152 ?_
                  refine kq_call (va_runS (As := [.ref (mo + 24), .ref (mo + 27), .ref (mo + 27)]) (rest := []) ⟨hx, hb, hml, hown, hts⟩ (c_Mo_plus_1 l E A w5 H5 hE hA hW5 (mo + 24) (mo + 27) (mo + 27) r24 (Or.inl r27) (Or.inl r27) (by rw [j27]; exact h27) (by rw [j27]; exact h27)) (va_cwS 3 hts (kt_inS kt_w558 kt_w556 kt_w557 kt_w5) rfl rfl rfl (by decide +kernel) ⟨Nat.le_of_ble_eq_true rfl, Nat.le_of_ble_eq_true rfl⟩) (kq_preS ((ks_C_st E A)) (hC)) rfl rfl hl.1 rfl (lv_room (Nat.le_of_ble_eq_true rfl)) d_Mo_join_155 ⟨Nat.zero_le _, Nat.zero_le _⟩) (fun v9 H6 L6 hq6 hL6 => ?_)
                  obtain ⟨rfl, hX6⟩ := hq6
                  refine W.eq (g2 := F0 m 158 ls []) rfl ?_
                  obtain ⟨w6, e6, o6, hW6⟩ : ∃ w : Nat → Nat, w (mo + 24) = (w5 (mo + 27) + w5 (mo + 27)) % kP ∧ (∀ q, q ≠ mo + 24 → w q = w5 q) ∧ ks_W E w H6 := ⟨_, kq_up_at, fun q hq => kq_up_ne hq, hX6⟩
                  have hO6 := ks_obj hW6 hO.1 hO.2.1
                  have hlc7 := t_lL (free := (fun q => q = mo ∨ ks_fr mo q)) hlc6 (fun q z => Or.inr (by rw [hL6 q z]; unfold ks_fr; omega))
                  rw [j27] at e6
                  have g23 : w6 (mo + 23) = (v (mo + 26) * v (mo + 26) % kP + (v (mo + 26) * v (mo + 26) % kP + v (mo + 26) * v (mo + 26) % kP) % kP) % kP := by rw [o6 _ (by omega), e5]
                  have g24 := e6
                  have g26 : w6 (mo + 26) = v (mo + 26) := by rw [o6 _ (by omega), o5 _ (by omega), o4 _ (by omega), o3 _ (by omega) (by omega)]
                  have g27 : w6 (mo + 27) = v (mo + 27) := by rw [o6 _ (by omega), j27]
                  have l23 : (v (mo + 26) * v (mo + 26) % kP + (v (mo + 26) * v (mo + 26) % kP + v (mo + 26) * v (mo + 26) % kP) % kP) % kP < kP := Nat.mod_lt _ (by decide)
                  have l24 : (v (mo + 27) + v (mo + 27)) % kP < kP := Nat.mod_lt _ (by decide)
                  have p24 := kx_dbl h27 hy0
                  have gk : ∀ q, ¬ ks_fr mo q → w6 q = v q := fun q hq => by
                    unfold ks_fr at hq
                    rw [o6 q (by omega), o5 q (by omega), o4 q (by omega), o3 q (by omega) (by omega)]
                  refine lv_goto hx hb d_Mo_join_158 rfl ?_
                  refine lt_Mo_join hx hb hts hown hml (Nat.le_of_ble_eq_true rfl) (Nat.le_of_ble_eq_true rfl) hE hO hB hA hC (v := w6) (bx := v (mo + 26)) (sm := true) hax0 hna (by rw [g23]; exact l23) (by rw [g24]; exact l24) (by rw [g24]; exact p24) (by rw [g26]; exact h26) (by rw [g27]; exact h27) (h26) (fun _ => g26) (fun z => by cases z) (fun w9 H9 ls L9 hW9 f26 f27 k9 hL9 => ?_) H6 ls _ hW6 hlc7 (lv_sub hl [0, 1, 2] rfl)
                  rw [g23, g24, g26, g27] at f26 f27
                  refine W.vret hx hb hret (fun t ht _ => ⟨_, rfl, rfl, far, w9, by rw [ht]; exact ks_X_self hW9 hF, ?_, fun q hq => by rw [k9 q hq]; exact gk q hq⟩) hL9 d_Mo_join_328
                  · have hpw : kx_pt mo far w9 = some (w9 (mo + 26), w9 (mo + 27)) := by unfold kx_pt; rw [if_neg (by rw [hfar]; decide)]
                    rw [hpw, f26, f27, hpt, if_neg (by decide), kc_join_some, if_pos hxe, if_pos hye, kc_twice_some, if_neg hy0]
              · have hy0 := kq_z_ne.mp hq0
                refine lv_aload_n hx hb d_Mo_join_86 rfl (lv_at hl 1 rfl) ?_
                refine lv_iconst (v := nI 1) hx hb d_Mo_join_87 (by decide) ?_
                refine kq_ri (show nI 1 = kq_z true from rfl) ?_
                refine kq_put hx hb hts kt_F_Mo t_Mo t_Mo_ok n_Mo hown hK hOo rfl 17 (by decide) kt_w393 rfl (ty := .boolean) (by decide +kernel) (kx_nz _) (kx_fz _) (Nat.le_of_ble_eq_true rfl) d_Mo_join_88 (fun H8 L8 hP8 hz8 ho8 hL8 => ?_)
                have hX8 := ks_X_new (far2 := true) (bs2 := bs) hW hF hz8 (fun x x1 _ => ho8 x x1) hP8 ((ho8 (mo + 16) (by omega)).trans ((hW.2.2.1 _ hF.2.2.1).trans hF.2.1))
                exact W.vret hx hb hret (fun t ht _ => ⟨_, rfl, rfl, true, _, by rw [ht]; exact hX8, by rw [hpt, if_neg (by decide), kc_join_some, if_pos hxe, if_pos hye, kc_twice_some, if_pos hy0]; rfl, fun _ _ => rfl⟩) (t_lL (free := (fun q => q = mo ∨ ks_fr mo q)) hlc3 (fun q z => Or.inl (hL8 q z))) d_Mo_join_91
  · have hfar := kq_z_b1 hf
    have hpt : kx_pt mo far v = none := by unfold kx_pt; rw [if_pos hfar]
    refine lv_iload_n hx hb d_Mo_join_7 rfl (lv_at hl 3 rfl) ?_
    refine lv_if_eq hx hb d_Mo_join_8 rfl (fun hs => ?_) (fun hs => ?_)
    · have hsm := kq_z_b0 hs
      subst hsm
      have hW3 := ks_put hE hW r26 bx
      have hO3 := ks_obj hW3 hO.1 hO.2.1
      have sy3 := ks_src hE hW3 hB hay0
      rw [kq_up_ne hny] at sy3
      have hW4 := ks_put hE hW3 r27 bY
      have hO4 := ks_obj hW4 hO.1 hO.2.1
      refine lv_aload_n hx hb d_Mo_join_12 rfl (lv_at hl 0 rfl) ?_
      refine kq_get hx hb hts kt_F_Mo hown hK hOo rfl 13 (by decide) kt_w389 rfl d_Mo_join_13 ?_
      refine lv_aload_n hx hb d_Mo_join_16 rfl (lv_at hl 1 rfl) ?_
      refine kq_call (va_runS (As := [.ref (mo + 26), .ref ax]) (rest := []) ⟨hx, hb, hml, hown, hts⟩ (c_Mo_copy l H (ks_c E) (mo + 26) ax _ (v ax) (ks_row hW r26)) (va_cwS 2 hts (kt_inS kt_w461 kt_w459 kt_w460 kt_w5) rfl rfl rfl (by decide +kernel) ⟨Nat.le_of_ble_eq_true rfl, Nat.le_of_ble_eq_true rfl⟩) (kq_preS (kq_st_A.both kq_st_r) (⟨hT, sx⟩)) rfl rfl hl.1 rfl (lv_room (Nat.le_of_ble_eq_true rfl)) d_Mo_join_17 ⟨Nat.zero_le _, Nat.zero_le _⟩) (fun v9 H9 L1 hq9 hL1 => ?_)
      obtain ⟨rfl, rfl⟩ := hq9
      refine W.eq (g2 := F0 m 20 ls []) rfl ?_
      have hlc1 := t_lL (free := (fun q => q = mo ∨ ks_fr mo q)) hlc0 (fun q z => Or.inr (by rw [hL1 q z]; unfold ks_fr; omega))
      refine lv_aload_n hx hb d_Mo_join_20 rfl (lv_at hl 0 rfl) ?_
      refine kq_get hx hb hts kt_F_Mo hown hK hO3 rfl 14 (by decide) kt_w390 rfl d_Mo_join_21 ?_
      refine lv_aload_n hx hb d_Mo_join_24 rfl (lv_at hl 2 rfl) ?_
      refine kq_call (va_runS (As := [.ref (mo + 27), .ref ay]) (rest := []) ⟨hx, hb, hml, hown, hts⟩ (c_Mo_copy l _ (ks_c E) (mo + 27) ay _ (v ay) (ks_row hW3 r27)) (va_cwS 2 hts (kt_inS kt_w461 kt_w459 kt_w460 kt_w5) rfl rfl rfl (by decide +kernel) ⟨Nat.le_of_ble_eq_true rfl, Nat.le_of_ble_eq_true rfl⟩) (kq_preS (kq_st_A.both kq_st_r) (⟨hT, sy3⟩)) rfl rfl hl.1 rfl (lv_room (Nat.le_of_ble_eq_true rfl)) d_Mo_join_25 ⟨Nat.zero_le _, Nat.zero_le _⟩) (fun v9 H9 L2 hq9 hL2 => ?_)
      obtain ⟨rfl, rfl⟩ := hq9
      refine W.eq (g2 := F0 m 28 ls []) rfl ?_
      have hlc2 := t_lL (free := (fun q => q = mo ∨ ks_fr mo q)) hlc1 (fun q z => Or.inr (by rw [hL2 q z]; unfold ks_fr; omega))
      refine lv_aload_n hx hb d_Mo_join_28 rfl (lv_at hl 0 rfl) ?_
      refine lv_iconst (v := nI 0) hx hb d_Mo_join_29 (by decide) ?_
      refine kq_ri (show nI 0 = kq_z false from rfl) ?_
      refine kq_put hx hb hts kt_F_Mo t_Mo t_Mo_ok n_Mo hown hK hO4 rfl 17 (by decide) kt_w393 rfl (ty := .boolean) (by decide +kernel) (kx_nz _) (kx_fz _) (Nat.le_of_ble_eq_true rfl) d_Mo_join_30 (fun H8 L8 hP8 hz8 ho8 hL8 => ?_)
      have hX8 := ks_X_new (far2 := false) (bs2 := bs) hW4 hF hz8 (fun x x1 _ => ho8 x x1) hP8 ((ho8 (mo + 16) (by omega)).trans ((hW4.2.2.1 _ hF.2.2.1).trans hF.2.1))
      exact W.vret hx hb hret (fun t ht _ => ⟨_, rfl, rfl, false, _, by rw [ht]; exact hX8, by rw [hpt, if_neg (by decide)]; unfold kx_pt; rw [if_neg (by decide), kq_up_at, kq_up_ne (by omega), kq_up_at]; rfl, fun q hq => by unfold ks_fr at hq; rw [kq_up_ne (by omega), kq_up_ne (by omega)]⟩) (t_lL (free := (fun q => q = mo ∨ ks_fr mo q)) hlc2 (fun q z => Or.inl (hL8 q z))) d_Mo_join_33
    · have hsm := kq_z_b1 hs
      subst hsm
      exact W.vret hx hb hret (fun t ht _ => ⟨_, rfl, rfl, far, v, by rw [ht]; exact ks_X_self hW hF, by rw [hpt, if_pos rfl]; rfl, fun _ _ => rfl⟩) hlc0 d_Mo_join_11
