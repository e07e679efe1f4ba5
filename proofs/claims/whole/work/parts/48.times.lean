/-! KeyCurveModel: times (own rows). -/
theorem kc_mj_none (N bx by1 : Nat) : ∀ j, kc_mj N true bx by1 j = none := by
  intro j
  induction j with
  | zero => rfl
  | succ j ih =>
    rw [kc_mj_s, ih, if_pos rfl]
    split <;> rfl
theorem d_Mo_times_0_0 : decode b_Mo_times_0 0 = .ok (.aload_n 0, 1) := by decide +kernel
theorem d_Mo_times_0_1 : decode b_Mo_times_0 1 = .ok (.iconst 1, 1) := by decide +kernel
theorem d_Mo_times_0_2 : decode b_Mo_times_0 2 = .ok (.putfield 118, 3) := by decide +kernel
theorem d_Mo_times_0_5 : decode b_Mo_times_0 5 = .ok (.aload_n 0, 1) := by decide +kernel
theorem d_Mo_times_0_6 : decode b_Mo_times_0 6 = .ok (.getfield 20, 3) := by decide +kernel
theorem d_Mo_times_0_9 : decode b_Mo_times_0 9 = .ok (.iload_n 2, 1) := by decide +kernel
theorem d_Mo_times_0_10 : decode b_Mo_times_0 10 = .ok (.iconst 3, 1) := by decide +kernel
theorem d_Mo_times_0_11 : decode b_Mo_times_0 11 = .ok (.iand, 1) := by decide +kernel
theorem d_Mo_times_0_12 : decode b_Mo_times_0 12 = .ok (.baload, 1) := by decide +kernel
theorem d_Mo_times_0_13 : decode b_Mo_times_0 13 = .ok (.ifCond .ne 69, 3) := by decide +kernel
theorem d_Mo_times_0_16 : decode b_Mo_times_0 16 = .ok (.sipush 255, 3) := by decide +kernel
theorem d_Mo_times_0_19 : decode b_Mo_times_0 19 = .ok (.istore 4, 2) := by decide +kernel
theorem d_Mo_times_0_21 : decode b_Mo_times_0 21 = .ok (.iload 4, 2) := by decide +kernel
theorem d_Mo_times_0_23 : decode b_Mo_times_0 23 = .ok (.ifCond .lt 59, 3) := by decide +kernel
theorem d_Mo_times_0_26 : decode b_Mo_times_0 26 = .ok (.aload_n 0, 1) := by decide +kernel
theorem d_Mo_times_0_27 : decode b_Mo_times_0 27 = .ok (.aload_n 0, 1) := by decide +kernel
theorem d_Mo_times_0_28 : decode b_Mo_times_0 28 = .ok (.getfield 52, 3) := by decide +kernel
theorem d_Mo_times_0_31 : decode b_Mo_times_0 31 = .ok (.aload_n 0, 1) := by decide +kernel
theorem d_Mo_times_0_32 : decode b_Mo_times_0 32 = .ok (.getfield 55, 3) := by decide +kernel
theorem d_Mo_times_0_35 : decode b_Mo_times_0 35 = .ok (.iconst 1, 1) := by decide +kernel
theorem d_Mo_times_0_36 : decode b_Mo_times_0 36 = .ok (.invokevirtual 180, 3) := by decide +kernel
theorem d_Mo_times_0_39 : decode b_Mo_times_0 39 = .ok (.aload_n 0, 1) := by decide +kernel
theorem d_Mo_times_0_40 : decode b_Mo_times_0 40 = .ok (.getfield 9, 3) := by decide +kernel
theorem d_Mo_times_0_43 : decode b_Mo_times_0 43 = .ok (.iload_n 3, 1) := by decide +kernel
theorem d_Mo_times_0_44 : decode b_Mo_times_0 44 = .ok (.iconst 3, 1) := by decide +kernel
theorem d_Mo_times_0_45 : decode b_Mo_times_0 45 = .ok (.iand, 1) := by decide +kernel
theorem d_Mo_times_0_46 : decode b_Mo_times_0 46 = .ok (.aaload, 1) := by decide +kernel
theorem d_Mo_times_0_47 : decode b_Mo_times_0 47 = .ok (.iload 4, 2) := by decide +kernel
theorem d_Mo_times_0_49 : decode b_Mo_times_0 49 = .ok (.invokestatic 145, 3) := by decide +kernel
theorem d_Mo_times_0_52 : decode b_Mo_times_0 52 = .ok (.iconst 1, 1) := by decide +kernel
theorem d_Mo_times_0_53 : decode b_Mo_times_0 53 = .ok (.if_icmp .ne 23, 3) := by decide +kernel
theorem d_Mo_times_0_56 : decode b_Mo_times_0 56 = .ok (.aload_n 0, 1) := by decide +kernel
theorem d_Mo_times_0_57 : decode b_Mo_times_0 57 = .ok (.aload_n 0, 1) := by decide +kernel
theorem d_Mo_times_0_58 : decode b_Mo_times_0 58 = .ok (.getfield 14, 3) := by decide +kernel
theorem d_Mo_times_0_61 : decode b_Mo_times_0 61 = .ok (.iload_n 2, 1) := by decide +kernel
theorem d_Mo_times_0_62 : decode b_Mo_times_0 62 = .ok (.iconst 3, 1) := by decide +kernel
theorem d_Mo_times_0_63 : decode b_Mo_times_0 63 = .ok (.iand, 1) := by decide +kernel
theorem d_Mo_times_0_64 : decode b_Mo_times_0 64 = .ok (.aaload, 1) := by decide +kernel
theorem d_Mo_times_0_65 : decode b_Mo_times_0 65 = .ok (.aload_n 0, 1) := by decide +kernel
theorem d_Mo_times_0_66 : decode b_Mo_times_0 66 = .ok (.getfield 17, 3) := by decide +kernel
theorem d_Mo_times_0_69 : decode b_Mo_times_0 69 = .ok (.iload_n 2, 1) := by decide +kernel
theorem d_Mo_times_0_70 : decode b_Mo_times_0 70 = .ok (.iconst 3, 1) := by decide +kernel
theorem d_Mo_times_0_71 : decode b_Mo_times_0 71 = .ok (.iand, 1) := by decide +kernel
theorem d_Mo_times_0_72 : decode b_Mo_times_0 72 = .ok (.aaload, 1) := by decide +kernel
theorem d_Mo_times_0_73 : decode b_Mo_times_0 73 = .ok (.invokevirtual 174, 3) := by decide +kernel
theorem d_Mo_times_0_76 : decode b_Mo_times_0 76 = .ok (.iinc 4 (-1), 3) := by decide +kernel
theorem d_Mo_times_0_79 : decode b_Mo_times_0 79 = .ok (.goto (-58), 3) := by decide +kernel
theorem d_Mo_times_0_82 : decode b_Mo_times_0 82 = .ok (.aload_n 0, 1) := by decide +kernel
theorem d_Mo_times_0_83 : decode b_Mo_times_0 83 = .ok (.iload_n 1, 1) := by decide +kernel
theorem d_Mo_times_0_84 : decode b_Mo_times_0 84 = .ok (.invokevirtual 177, 3) := by decide +kernel
theorem d_Mo_times_0_87 : decode b_Mo_times_0 87 = .ok (.return_, 1) := by decide +kernel
section
variable {p : Program} {l : Launch} {e : Env} {R : Room} {s : State} {m : MethodId} {args : Array Value} {below : List Frame} {meth : Method} {c : Code} {cells slots : Nat} {Q : State → Prop}
set_option maxHeartbeats 4000000 in
set_option maxRecDepth 100000 in
theorem lp_Mo_times_0 (hx : p.tables.exec = Jvm.exec) (hb : c.code = b_Mo_times_0) (hts : ∀ w ∈ w_Mo_times_0, w.before args s = true) (hown : s.vm.findClass R_Mo = some m.cls) (hml : c.maxLocals = 5) (hRf : 6 ≤ R.frames) (hRl : 138 ≤ R.locals) {E : ks_E} {A : Nat → Nat} {mo : Nat} {cZ : ClassId} {far : Bool} {bs : Nat → Bool} {v : Nat → Nat} (hE : ks_ok E) (hA : ks_A E A) (hG : ks_G E mo) (hF : ks_F E mo cZ far bs) (hKZ : ks_KZ E A mo cZ s) {q a r : Int32} (hla : v (mo + 7 + kx3 a) < kP ∧ v (mo + 12 + kx3 a) < kP)
    (kk : ∀ (far2 : Bool) (w : Nat → Nat) (H : Heap) (ls : Array Slot) (locs : List Loc), ks_X E mo cZ far2 bs w H → kx_pt mo far2 w = kc_mj (v (mo + 2 + kx3 r)) false (v (mo + 7 + kx3 a)) (v (mo + 12 + kx3 a)) (256) → (∀ x, ¬ ks_fr mo x → w x = v x) → (∀ x ∈ locs, x.base = mo ∨ ks_fr mo x.base) → lv_has ls 5 [(0, .ref mo), (1, .int q)] → W p l e R s m args below meth c H locs 0 0 Q (F0 m 82 ls [])) :
    ∀ (n : Nat) (far2 : Bool) (w : Nat → Nat) (H : Heap) (ls : Array Slot) (locs : List Loc), n ≤ 256 → ks_X E mo cZ far2 bs w H → kx_pt mo far2 w = kc_mj (v (mo + 2 + kx3 r)) false (v (mo + 7 + kx3 a)) (v (mo + 12 + kx3 a)) (256 - n) → kc_low (kx_pt mo far2 w) → (∀ x, ¬ ks_fr mo x → w x = v x) → (∀ x ∈ locs, x.base = mo ∨ ks_fr mo x.base) → lv_has ls 5 [(4, .int (kq_dn n)), (0, .ref mo), (1, .int q), (2, .int a), (3, .int r)] → W p l e R s m args below meth c H locs 0 0 Q (F0 m 21 ls []) := by
  intro n
  induction n with
  | zero =>
    intro far2 w H ls locs hn hX h1 hlw ho hlc hl
    refine lv_iload hx hb d_Mo_times_0_21 (lv_at hl 0 rfl) ?_
    refine lv_if_lt hx hb d_Mo_times_0_23 rfl (fun hc => ?_) (fun hc => ?_)
    · exact kk far2 w H ls locs hX h1 ho hlc (lv_sub hl [1, 2] rfl)
    · exact absurd (by decide) hc
  | succ n ih =>
    intro far2 w H ls locs hn hX h1 hlw ho hlc hl
    have hl : lv_has ls 5 [(4, .int (nI n)), (0, .ref mo), (1, .int q), (2, .int a), (3, .int r)] := hl
    have hKK := hKZ.1
    have hK := hKK.1.1.1
    have ka := kx3_lt a
    have kr := kx3_lt r
    have hxo := (hG.1 (kx3 a) ka).2.1
    have hyo := (hG.1 (kx3 a) ka).2.2
    have es : kc_mj (v (mo + 2 + kx3 r)) false (v (mo + 7 + kx3 a)) (v (mo + 12 + kx3 a)) (256 - n) = if v (mo + 2 + kx3 r) / 2 ^ n % 2 = 1 then kc_join (kc_twice (kc_mj (v (mo + 2 + kx3 r)) false (v (mo + 7 + kx3 a)) (v (mo + 12 + kx3 a)) (256 - (n + 1)))) (v (mo + 7 + kx3 a)) (v (mo + 12 + kx3 a)) else kc_twice (kc_mj (v (mo + 2 + kx3 r)) false (v (mo + 7 + kx3 a)) (v (mo + 12 + kx3 a)) (256 - (n + 1))) := by
      have q1 : 256 - n = (256 - (n + 1)) + 1 := by omega
      have q2 : 255 - (256 - (n + 1)) = n := by omega
      rw [q1, kc_mj_s, q2, if_neg (show ¬ (false = true) by decide)]
    obtain ⟨B1, hlk1, hW1, hF1⟩ := hX
    have hE1 : ks_ok (ks_at E B1) := hE
    have hA1 : ks_A (ks_at E B1) A := hA
    have hG1 : ks_G (ks_at E B1) mo := hG
    have hK1 := ks_K_at hE hG hF hlk1 hKK
    have hO1 := ks_obj hW1 hF1.1.1 hF1.1.2.1
    have hN1 : H[mo + 16]? = some (kq_B cZ bs) := (hW1.2.2.1 _ hF1.2.2.1).trans hF1.2.1
    have hzr1 : kq_r s .boolean H (mo + 16) 4 (fun j => .int (kq_z (bs j))) := kq_r.ofV hKZ.2 hN1
    have har1 := hK1.2.1.other (hW1.2.2.1 (mo + 1) hG.2.1)
    have hax1 := hK1.2.2.1.other (hW1.2.2.1 (mo + 6) hG.2.2.1)
    have hay1 := hK1.2.2.2.other (hW1.2.2.1 (mo + 11) hG.2.2.2)
    have r26 := hF1.1.2.2.1 26 (by decide) (by decide) (by decide)
    have r27 := hF1.1.2.2.1 27 (by decide) (by decide) (by decide)
    refine lv_iload hx hb d_Mo_times_0_21 (lv_at hl 0 rfl) ?_
    refine lv_if_lt hx hb d_Mo_times_0_23 rfl (fun hc => ?_) (fun hc => ?_)
    · exact absurd hc (nI_pos (by omega))
    · refine lv_aload_n hx hb d_Mo_times_0_26 rfl (lv_at hl 1 rfl) ?_
      refine lv_aload_n hx hb d_Mo_times_0_27 rfl (lv_at hl 1 rfl) ?_
      refine kq_get hx hb hts kt_F_Mo hown hK hO1 rfl 13 (by decide) kt_w389 rfl d_Mo_times_0_28 ?_
      refine lv_aload_n hx hb d_Mo_times_0_31 rfl (lv_at hl 1 rfl) ?_
      refine kq_get hx hb hts kt_F_Mo hown hK hO1 rfl 14 (by decide) kt_w390 rfl d_Mo_times_0_32 ?_
      refine lv_iconst (v := nI 1) hx hb d_Mo_times_0_35 (by decide) ?_
      refine kq_ri (show nI 1 = kq_z true from rfl) ?_
      refine kq_call (va_runV (As := [.ref (mo + 26), .ref (mo + 27), .int (kq_z true)]) (rest := []) ⟨hx, hb, hml, hown, hts⟩ (c_Mo_join l (ks_at E B1) A mo cZ far2 bs w H hE1 hA1 hG1 hF1 hW1 (mo + 26) (mo + 27) true (Or.inl r26) (Or.inl r27) (by omega) (by omega) (fun z => ⟨(kx_pt_low hlw z).1, (kx_pt_low hlw z).2, (kx_pt_low hlw z).1, (kx_pt_low hlw z).2⟩)) (cwV 3 hts (kt_inV kt_w578 kt_w575 kt_w577 kt_s20 kt_w5) rfl rfl rfl (by decide +kernel) ⟨Nat.le_trans (Nat.le_of_ble_eq_true rfl) hRf, Nat.le_trans (Nat.le_of_ble_eq_true rfl) hRl⟩) (kq_preV ((ks_KZ_st (ks_at E B1) A mo cZ)) (⟨hK1, hKZ.2⟩) (kq_recv hK hO1 rfl)) rfl rfl hl.1 rfl (lv_room (Nat.le_of_ble_eq_true rfl)) d_Mo_times_0_36 ⟨Nat.zero_le _, Nat.zero_le _⟩) (fun v9 H2 L2 hq2 hL2 => ?_)
      obtain ⟨rfl, far3, w2, hX2, e2, k2⟩ := hq2
      refine W.eq (g2 := F0 m 39 ls []) rfl ?_
      rw [if_pos rfl] at e2
      have hX2 := ks_X_trans hlk1 hX2
      have hlc2 := t_lL (free := (fun q => q = mo ∨ ks_fr mo q)) hlc hL2
      have ho2 : ∀ x, ¬ ks_fr mo x → w2 x = v x := fun x x1 => (k2 x x1).trans (ho x x1)
      have hlw2 : kc_low (kx_pt mo far3 w2) := by rw [e2]; exact kc_twice_low
      obtain ⟨B2, hlk2, hW2, hF2⟩ := hX2
      have hE2 : ks_ok (ks_at E B2) := hE
      have hA2 : ks_A (ks_at E B2) A := hA
      have hG2 : ks_G (ks_at E B2) mo := hG
      have hK2 := ks_K_at hE hG hF hlk2 hKK
      have hO2 := ks_obj hW2 hF2.1.1 hF2.1.2.1
      have hN2 : H2[mo + 16]? = some (kq_B cZ bs) := (hW2.2.2.1 _ hF2.2.2.1).trans hF2.2.1
      have hzr2 : kq_r s .boolean H2 (mo + 16) 4 (fun j => .int (kq_z (bs j))) := kq_r.ofV hKZ.2 hN2
      have har2 := hK2.2.1.other (hW2.2.2.1 (mo + 1) hG.2.1)
      have hax2 := hK2.2.2.1.other (hW2.2.2.1 (mo + 6) hG.2.2.1)
      have hay2 := hK2.2.2.2.other (hW2.2.2.1 (mo + 11) hG.2.2.2)
      have hsr := ks_src hE2 hW2 hK2.1.1 (Or.inl (hG.1 (kx3 r) kr).1)
      rw [ho2 (mo + 2 + kx3 r) (by unfold ks_fr; omega)] at hsr
      have cx : w2 (mo + 7 + kx3 a) = v (mo + 7 + kx3 a) := ho2 _ (by unfold ks_fr; omega)
      have cy : w2 (mo + 12 + kx3 a) = v (mo + 12 + kx3 a) := ho2 _ (by unfold ks_fr; omega)
      refine lv_aload_n hx hb d_Mo_times_0_39 rfl (lv_at hl 1 rfl) ?_
      refine kq_get hx hb hts kt_F_Mo hown hK hO2 rfl 0 (by decide) kt_w376 rfl d_Mo_times_0_40 ?_
      refine lv_iload_n hx hb d_Mo_times_0_43 rfl (lv_at hl 4 rfl) ?_
      refine lv_iconst (v := nI 3) hx hb d_Mo_times_0_44 (by decide) ?_
      refine lv_iand hx hb d_Mo_times_0_45 ?_
      refine kq_ri (show r &&& (nI 3) = nI (kx3 r) from kx_and3 r) ?_
      refine kq_aald hx hb (har2) rfl (kx3_lt r) (by decide) (rfl) d_Mo_times_0_46 ?_
      refine lv_iload hx hb d_Mo_times_0_47 (lv_at hl 0 rfl) ?_
      refine kq_call (va_runS (As := [.ref (mo + 2 + kx3 r), .int (nI n)]) (rest := []) ⟨hx, hb, hml, hown, hts⟩ (c_Mo_bit l H2 (mo + 2 + kx3 r) (v (mo + 2 + kx3 r)) n (by omega)) (va_cwS 2 hts (kt_inS kt_w528 kt_w526 kt_w527 kt_w5) rfl rfl rfl (by decide +kernel) ⟨Nat.le_trans (Nat.le_of_ble_eq_true rfl) hRf, Nat.le_trans (Nat.le_of_ble_eq_true rfl) hRl⟩) (kq_preS (kq_st_r) (hsr)) rfl rfl hl.1 rfl (lv_room (Nat.le_of_ble_eq_true rfl)) d_Mo_times_0_49 ⟨Nat.zero_le _, Nat.zero_le _⟩) (fun v9 H9 L3 hq9 hL3 => ?_)
      obtain ⟨rfl, e9⟩ := hq9
      rw [e9]
      clear e9
      refine W.eq (g2 := F0 m 52 ls [.int (nI (v (mo + 2 + kx3 r) / 2 ^ n % 2))]) rfl ?_
      have hlc3 := t_lL (free := (fun q => q = mo ∨ ks_fr mo q)) hlc2 (fun x z => (hL3 x z).elim)
      refine lv_iconst (v := nI 1) hx hb d_Mo_times_0_52 (by decide) ?_
      refine lv_icmp_ne hx hb d_Mo_times_0_53 rfl (fun hc0 => ?_) (fun hc0 => ?_)
      · have h0 : ¬ v (mo + 2 + kx3 r) / 2 ^ n % 2 = 1 := fun z => hc0 (by rw [z])
        refine lv_iinc (k := 0) (v := kq_dn n) hx hb d_Mo_times_0_76 hl rfl (kq_dn_dec n) (by decide) rfl (fun ls hl => ?_)
        have hl : lv_has ls 5 [(4, .int (kq_dn n)), (0, .ref mo), (1, .int q), (2, .int a), (3, .int r)] := hl
        refine lv_goto hx hb d_Mo_times_0_79 rfl ?_
        exact ih far3 w2 H2 ls _ (by omega) ⟨B2, hlk2, hW2, hF2⟩ (by rw [es, if_neg h0, e2, h1]) hlw2 ho2 hlc3 (lv_sub hl [0, 1, 2, 3, 4] rfl)
      · have h0 : v (mo + 2 + kx3 r) / 2 ^ n % 2 = 1 := (kx_n1 (by omega)).mp hc0
        refine lv_aload_n hx hb d_Mo_times_0_56 rfl (lv_at hl 1 rfl) ?_
        refine lv_aload_n hx hb d_Mo_times_0_57 rfl (lv_at hl 1 rfl) ?_
        refine kq_get hx hb hts kt_F_Mo hown hK hO2 rfl 1 (by decide) kt_w377 rfl d_Mo_times_0_58 ?_
        refine lv_iload_n hx hb d_Mo_times_0_61 rfl (lv_at hl 3 rfl) ?_
        refine lv_iconst (v := nI 3) hx hb d_Mo_times_0_62 (by decide) ?_
        refine lv_iand hx hb d_Mo_times_0_63 ?_
        refine kq_ri (show a &&& (nI 3) = nI (kx3 a) from kx_and3 a) ?_
        refine kq_aald hx hb (hax2) rfl (kx3_lt a) (by decide) (rfl) d_Mo_times_0_64 ?_
        refine lv_aload_n hx hb d_Mo_times_0_65 rfl (lv_at hl 1 rfl) ?_
        refine kq_get hx hb hts kt_F_Mo hown hK hO2 rfl 2 (by decide) kt_w378 rfl d_Mo_times_0_66 ?_
        refine lv_iload_n hx hb d_Mo_times_0_69 rfl (lv_at hl 3 rfl) ?_
        refine lv_iconst (v := nI 3) hx hb d_Mo_times_0_70 (by decide) ?_
        refine lv_iand hx hb d_Mo_times_0_71 ?_
        refine kq_ri (show a &&& (nI 3) = nI (kx3 a) from kx_and3 a) ?_
        refine kq_aald hx hb (hay2) rfl (kx3_lt a) (by decide) (rfl) d_Mo_times_0_72 ?_
        refine kq_call (va_runV (As := [.ref (mo + 7 + kx3 a), .ref (mo + 12 + kx3 a)]) (rest := []) ⟨hx, hb, hml, hown, hts⟩ (c_Mo_more l (ks_at E B2) A mo cZ far3 bs w2 H2 hE2 hA2 hG2 hF2 hW2 (mo + 7 + kx3 a) (mo + 12 + kx3 a) (Or.inl hxo) (Or.inl hyo) (by omega) (by omega) (fun z => ⟨(kx_pt_low hlw2 z).1, (kx_pt_low hlw2 z).2, by rw [cx]; exact hla.1, by rw [cy]; exact hla.2⟩)) (cwV 2 hts (kt_inV kt_w574 kt_w571 kt_w573 kt_s19 kt_w5) rfl rfl rfl (by decide +kernel) ⟨Nat.le_trans (Nat.le_of_ble_eq_true rfl) hRf, Nat.le_trans (Nat.le_of_ble_eq_true rfl) hRl⟩) (kq_preV ((ks_KZ_st (ks_at E B2) A mo cZ)) (⟨hK2, hKZ.2⟩) (kq_recv hK hO2 rfl)) rfl rfl hl.1 rfl (lv_room (Nat.le_of_ble_eq_true rfl)) d_Mo_times_0_73 ⟨Nat.zero_le _, Nat.zero_le _⟩) (fun v9 H4 L4 hq4 hL4 => ?_)
        obtain ⟨rfl, far4, w4, hX4, e4, k4⟩ := hq4
        refine W.eq (g2 := F0 m 76 ls []) rfl ?_
        rw [cx, cy, e2, h1] at e4
        have hX4 := ks_X_trans hlk2 hX4
        have hlc4 := t_lL (free := (fun q => q = mo ∨ ks_fr mo q)) hlc3 hL4
        refine lv_iinc (k := 0) (v := kq_dn n) hx hb d_Mo_times_0_76 hl rfl (kq_dn_dec n) (by decide) rfl (fun ls hl => ?_)
        have hl : lv_has ls 5 [(4, .int (kq_dn n)), (0, .ref mo), (1, .int q), (2, .int a), (3, .int r)] := hl
        refine lv_goto hx hb d_Mo_times_0_79 rfl ?_
        exact ih far4 w4 H4 ls _ (by omega) hX4 (by rw [es, if_pos h0, e4]) (by rw [e4]; exact kc_join_low hla.1 hla.2) (fun x x1 => (k4 x x1).trans (ho2 x x1)) hlc4 (lv_sub hl [0, 1, 2, 3, 4] rfl)
end
set_option maxHeartbeats 4000000 in
set_option maxRecDepth 100000 in
theorem c_Mo_times_0 (l : Launch) (E : ks_E) (A : Nat → Nat) (mo : Nat) (cZ : ClassId) (far : Bool) (bs : Nat → Bool) (v : Nat → Nat) (H : Heap) (hE : ks_ok E) (hA : ks_A E A) (hG : ks_G E mo) (hF : ks_F E mo cZ far bs) (hW : ks_W E v H) (hlow : ∀ j, j < 4 → bs j = false → v (mo + 7 + j) < kP ∧ v (mo + 12 + j) < kP) (q a r : Int32) : Met l y_Mo_times_0 w_Mo_times_0 ({ frames := 6, cells := 0, slots := 0, locals := 138 }) (kq_P [.ref mo, .int q, .int a, .int r] H (ks_KZ E A mo cZ)) (kq_Q (fun o1 H1 => o1 = none ∧ ∃ (far2 : Bool) (w : Nat → Nat), ks_X E mo cZ far2 (kx_ub bs (kx3 q) (kc_mj (v (mo + 2 + kx3 r)) (bs (kx3 a)) (v (mo + 7 + kx3 a)) (v (mo + 12 + kx3 a)) 256).isNone) w H1 ∧ (∀ q0, kc_mj (v (mo + 2 + kx3 r)) (bs (kx3 a)) (v (mo + 7 + kx3 a)) (v (mo + 12 + kx3 a)) 256 = some q0 → w (mo + 7 + kx3 q) = q0.1 ∧ w (mo + 12 + kx3 q) = q0.2) ∧ (kc_mj (v (mo + 2 + kx3 r)) (bs (kx3 a)) (v (mo + 7 + kx3 a)) (v (mo + 12 + kx3 a)) 256 = none → w (mo + 7 + kx3 q) = v (mo + 7 + kx3 q) ∧ w (mo + 12 + kx3 q) = v (mo + 12 + kx3 q)) ∧ ∀ x, x ≠ mo + 7 + kx3 q → x ≠ mo + 12 + kx3 q → ¬ ks_fr mo x → w x = v x)) 0 0 (fun x => x = mo ∨ x = mo + 7 + kx3 q ∨ x = mo + 12 + kx3 q ∨ x = mo + 16 ∨ ks_fr mo x) := by
  refine Met.ofW (cc := b_Mo_times_0) (maxL := 5) (ret := none) (by decide) rfl ?_
  intro p e s m args below meth c s₁ B0 hml hv
  obtain ⟨rfl, hH, hKZ⟩ := hv
  have hx := B0.exec
  have hb := B0.bytes
  have hret := B0.returns
  have hts := atoms_spec (ws := w_Mo_times_0) B0.pre
  have hown : s.vm.findClass R_Mo = some m.cls := findClass_of_methodNamed B0.named
  have hlocks := B0.notSynchronized
  rw [hH]
  have hl := lv_entry ([.ref mo, .int q, .int a, .int r]) (n := 5) (Nat.le_of_ble_eq_true rfl)
  rw [lg_entry_eq]
  generalize (lg_sl ([.ref mo, .int q, .int a, .int r]) ++ List.replicate (5 - (lg_sl ([.ref mo, .int q, .int a, .int r])).length) Slot.unset).toArray = ls at hl ⊢
  have hl : lv_has ls 5 [(0, .ref mo), (1, .int q), (2, .int a), (3, .int r)] := hl
  have hKK := hKZ.1
  have hC := hKK.1
  have hB := hC.1
  have hK := hB.1
  have hT := ks_T hE hB
  have hO := hF.1
  have hOo := ks_obj hW hO.1 hO.2.1
  have hNn : H[mo + 16]? = some (kq_B cZ bs) := (hW.2.2.1 _ hF.2.2.1).trans hF.2.1
  have hzr : kq_r s .boolean H (mo + 16) 4 (fun j => .int (kq_z (bs j))) := kq_r.ofV hKZ.2 hNn
  have har := hKK.2.1.other (hW.2.2.1 (mo + 1) hG.2.1)
  have hax := hKK.2.2.1.other (hW.2.2.1 (mo + 6) hG.2.2.1)
  have hay := hKK.2.2.2.other (hW.2.2.1 (mo + 11) hG.2.2.2)
  have ka := kx3_lt a
  refine lv_aload_n hx hb d_Mo_times_0_0 rfl (lv_at hl 0 rfl) ?_
  refine lv_iconst (v := nI 1) hx hb d_Mo_times_0_1 (by decide) ?_
  refine kq_ri (show nI 1 = kq_z true from rfl) ?_
  refine kq_put hx hb hts kt_F_Mo t_Mo t_Mo_ok n_Mo hown hK hOo rfl 17 (by decide) kt_w393 rfl (ty := .boolean) (by decide +kernel) (kx_nz _) (kx_fz _) (Nat.le_of_ble_eq_true rfl) d_Mo_times_0_2 (fun H1 L1 hP1 hz1 ho1 hL1 => ?_)
  have hX1 := ks_X_new (far2 := true) (bs2 := bs) hW hF hz1 (fun x x1 _ => ho1 x x1) hP1 ((ho1 (mo + 16) (by omega)).trans hNn)
  have hlc1 := t_lL (free := (fun q => q = mo ∨ ks_fr mo q)) (locs := []) (fun q h => by cases h) (fun q z => Or.inl (hL1 q z))
  obtain ⟨B1, hlk1, hW1, hF1⟩ := hX1
  have hE1 : ks_ok (ks_at E B1) := hE
  have hA1 : ks_A (ks_at E B1) A := hA
  have hG1 : ks_G (ks_at E B1) mo := hG
  have hK1 := ks_K_at hE hG hF hlk1 hKK
  have hO1 := ks_obj hW1 hF1.1.1 hF1.1.2.1
  have hN1 : H1[mo + 16]? = some (kq_B cZ bs) := (hW1.2.2.1 _ hF1.2.2.1).trans hF1.2.1
  have hzr1 : kq_r s .boolean H1 (mo + 16) 4 (fun j => .int (kq_z (bs j))) := kq_r.ofV hKZ.2 hN1
  have har1 := hK1.2.1.other (hW1.2.2.1 (mo + 1) hG.2.1)
  have hax1 := hK1.2.2.1.other (hW1.2.2.1 (mo + 6) hG.2.2.1)
  have hay1 := hK1.2.2.2.other (hW1.2.2.1 (mo + 11) hG.2.2.2)
  refine lv_aload_n hx hb d_Mo_times_0_5 rfl (lv_at hl 0 rfl) ?_
  refine kq_get hx hb hts kt_F_Mo hown hK hO1 rfl 3 (by decide) kt_w379 rfl d_Mo_times_0_6 ?_
  refine lv_iload_n hx hb d_Mo_times_0_9 rfl (lv_at hl 2 rfl) ?_
  refine lv_iconst (v := nI 3) hx hb d_Mo_times_0_10 (by decide) ?_
  refine lv_iand hx hb d_Mo_times_0_11 ?_
  refine kq_ri (show a &&& (nI 3) = nI (kx3 a) from kx_and3 a) ?_
  refine kq_zald hx hb hzr1 (kx3_lt a) (by decide) rfl d_Mo_times_0_12 ?_
  refine lv_if_ne hx hb d_Mo_times_0_13 rfl (fun hc => ?_) (fun hc => ?_)
  · have hbn := kq_z_b1 hc
    refine lv_aload_n hx hb d_Mo_times_0_82 rfl (lv_at hl 0 rfl) ?_
    refine lv_iload_n hx hb d_Mo_times_0_83 rfl (lv_at hl 1 rfl) ?_
    refine kq_call (va_runV (As := [.int q]) (rest := []) ⟨hx, hb, hml, hown, hts⟩ (c_Mo_store l (ks_at E B1) A mo cZ true bs v H1 hE1 hA1 hG1 hF1 hW1 q) (cwV 1 hts (kt_inV kt_w585 kt_w582 kt_w584 kt_s21 kt_w5) rfl rfl rfl (by decide +kernel) ⟨Nat.le_of_ble_eq_true rfl, Nat.le_of_ble_eq_true rfl⟩) (kq_preV ((ks_KZ_st (ks_at E B1) A mo cZ)) (⟨hK1, hKZ.2⟩) (kq_recv hK hO1 rfl)) rfl rfl hl.1 rfl (lv_room (Nat.le_of_ble_eq_true rfl)) d_Mo_times_0_84 ⟨Nat.zero_le _, Nat.zero_le _⟩) (fun v9 H9 L9 hq9 hL9 => ?_)
    obtain ⟨rfl, hX9⟩ := hq9
    refine W.eq (g2 := F0 m 87 ls []) rfl ?_
    obtain ⟨u9, hu9, b9, p9, n9, k9⟩ := kx_fin (k := kx3 q) (show kx_pt mo true v = kc_mj (v (mo + 2 + kx3 r)) (bs (kx3 a)) (v (mo + 7 + kx3 a)) (v (mo + 12 + kx3 a)) 256 from by rw [hbn, kc_mj_none]; rfl) (kx3_lt q) (fun _ _ => rfl)
    rw [hu9] at hX9
    have hY9 := ks_X_trans hlk1 hX9
    refine W.vret hx hb hret (fun t ht _ => ⟨_, rfl, rfl, true, u9, ?_, p9, n9, k9⟩) (t_lL (free := (fun x => x = mo ∨ x = mo + 7 + kx3 q ∨ x = mo + 12 + kx3 q ∨ x = mo + 16 ∨ ks_fr mo x)) (fun x h => (hlc1 x h).elim Or.inl (fun y => Or.inr (Or.inr (Or.inr (Or.inr y))))) (fun x z => (by rcases hL9 x z with y | y | y; exact Or.inr (Or.inl y); exact Or.inr (Or.inr (Or.inl y)); exact Or.inr (Or.inr (Or.inr (Or.inl y)))))) d_Mo_times_0_87
    rw [ht, ← b9]
    exact hY9
  · have hbn := kq_z_b0 hc
    refine lv_sipush (v := nI 255) hx hb d_Mo_times_0_16 (by decide) ?_
    refine lv_istore hx hb d_Mo_times_0_19 hl (by decide) rfl (fun ls hl => ?_)
    have hl : lv_has ls 5 [(4, .int (nI 255)), (0, .ref mo), (1, .int q), (2, .int a), (3, .int r)] := hl
    refine lp_Mo_times_0 hx hb hts hown hml (Nat.le_of_ble_eq_true rfl) (Nat.le_of_ble_eq_true rfl) hE hA hG hF hKZ (v := v) (q := q) (a := a) (r := r) (hlow _ ka hbn) (fun far2 w2 H2 ls L2 hX2 e2 k2 hL2 hl => ?_) 256 true v H1 ls _ (Nat.le_refl 256) ⟨B1, hlk1, hW1, hF1⟩ (by rw [Nat.sub_self]; rfl) (fun q0 hq0 => by cases hq0) (fun _ _ => rfl) hlc1 (lv_sub hl [0, 1, 2, 3, 4] rfl)
    obtain ⟨B2, hlk2, hW2, hF2⟩ := hX2
    have hE2 : ks_ok (ks_at E B2) := hE
    have hA2 : ks_A (ks_at E B2) A := hA
    have hG2 : ks_G (ks_at E B2) mo := hG
    have hK2 := ks_K_at hE hG hF hlk2 hKK
    have hO2 := ks_obj hW2 hF2.1.1 hF2.1.2.1
    have hN2 : H2[mo + 16]? = some (kq_B cZ bs) := (hW2.2.2.1 _ hF2.2.2.1).trans hF2.2.1
    have hzr2 : kq_r s .boolean H2 (mo + 16) 4 (fun j => .int (kq_z (bs j))) := kq_r.ofV hKZ.2 hN2
    have har2 := hK2.2.1.other (hW2.2.2.1 (mo + 1) hG.2.1)
    have hax2 := hK2.2.2.1.other (hW2.2.2.1 (mo + 6) hG.2.2.1)
    have hay2 := hK2.2.2.2.other (hW2.2.2.1 (mo + 11) hG.2.2.2)
    refine lv_aload_n hx hb d_Mo_times_0_82 rfl (lv_at hl 0 rfl) ?_
    refine lv_iload_n hx hb d_Mo_times_0_83 rfl (lv_at hl 1 rfl) ?_
    refine kq_call (va_runV (As := [.int q]) (rest := []) ⟨hx, hb, hml, hown, hts⟩ (c_Mo_store l (ks_at E B2) A mo cZ far2 bs w2 H2 hE2 hA2 hG2 hF2 hW2 q) (cwV 1 hts (kt_inV kt_w585 kt_w582 kt_w584 kt_s21 kt_w5) rfl rfl rfl (by decide +kernel) ⟨Nat.le_of_ble_eq_true rfl, Nat.le_of_ble_eq_true rfl⟩) (kq_preV ((ks_KZ_st (ks_at E B2) A mo cZ)) (⟨hK2, hKZ.2⟩) (kq_recv hK hO2 rfl)) rfl rfl hl.1 rfl (lv_room (Nat.le_of_ble_eq_true rfl)) d_Mo_times_0_84 ⟨Nat.zero_le _, Nat.zero_le _⟩) (fun v9 H9 L9 hq9 hL9 => ?_)
    obtain ⟨rfl, hX9⟩ := hq9
    refine W.eq (g2 := F0 m 87 ls []) rfl ?_
    obtain ⟨u9, hu9, b9, p9, n9, k9⟩ := kx_fin (k := kx3 q) (show kx_pt mo far2 w2 = kc_mj (v (mo + 2 + kx3 r)) (bs (kx3 a)) (v (mo + 7 + kx3 a)) (v (mo + 12 + kx3 a)) 256 from by rw [hbn]; exact e2) (kx3_lt q) k2
    rw [hu9] at hX9
    have hY9 := ks_X_trans hlk2 hX9
    refine W.vret hx hb hret (fun t ht _ => ⟨_, rfl, rfl, far2, u9, ?_, p9, n9, k9⟩) (t_lL (free := (fun x => x = mo ∨ x = mo + 7 + kx3 q ∨ x = mo + 12 + kx3 q ∨ x = mo + 16 ∨ ks_fr mo x)) (fun x h => (hL2 x h).elim Or.inl (fun y => Or.inr (Or.inr (Or.inr (Or.inr y))))) (fun x z => (by rcases hL9 x z with y | y | y; exact Or.inr (Or.inl y); exact Or.inr (Or.inr (Or.inl y)); exact Or.inr (Or.inr (Or.inr (Or.inl y)))))) d_Mo_times_0_87
    rw [ht, ← b9]
    exact hY9
