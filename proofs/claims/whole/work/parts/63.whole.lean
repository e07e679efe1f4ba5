/-! The law's start (own rows). -/
theorem d_law_0 : decode code 0 = .ok (.new 7, 3) := by decide +kernel
theorem d_law_3 : decode code 3 = .ok (.dup, 1) := by decide +kernel
theorem d_law_4 : decode code 4 = .ok (.invokespecial 9, 3) := by decide +kernel
theorem d_law_7 : decode code 7 = .ok (.astore_n 1, 1) := by decide +kernel
theorem d_law_8 : decode code 8 = .ok (.new 10, 3) := by decide +kernel
theorem d_law_11 : decode code 11 = .ok (.dup, 1) := by decide +kernel
theorem d_law_12 : decode code 12 = .ok (.invokespecial 12, 3) := by decide +kernel
theorem d_law_15 : decode code 15 = .ok (.astore_n 2, 1) := by decide +kernel
/-- OPEN: the row that the static field n holds is of the class that the tables find by the name [J (the premises don't say it; REPORT.md, STATEMENT 2) -/
def kl_cls (s : State) (n : String) : Prop := ∀ (t : Nat) (cell : Cell), va_Z "KeyCurve" n "[J" (.ref t) (fun q => s.heap.size ≤ q) s s.heap → s.heap[t]? = some cell → s.vm.findClass "[J" = some cell.cls
set_option maxHeartbeats 4000000 in
set_option maxRecDepth 100000 in
theorem whole_start_open {p : Program} {e : Env} {s : State} {m : MethodId} {below : List Frame} {meth : Method} {c : Code} (l : Launch) {b L : Nat} {xs : Nat → Int32} (hL : L ≤ 2560) (C0 : lw_At p s m meth c b L xs) (hF : kl_cls s "FIELD") (hOr : kl_cls s "ORDER") : W p l e room_1 s m #[Value.ref b] below meth c s.heap [] 0 0 (lw_Z below #[Value.ref b] s) (entryFrame m ([Value.ref b] : List Value).toArray 4) := by
  obtain ⟨hx, hb, hr, hml, hown, hts0, hX, hbl, hlocks, hgv⟩ := C0
  have hown : s.vm.findClass "KeyCurveLaw" = some m.cls := hown
  have hkt : ∀ w ∈ kt_all, w.before #[Value.ref b] s = true := fun w hw => hts0 w (List.mem_filter.mp hw).1
  have hts : ∀ w ∈ kl_y :: kt_all, w.before #[Value.ref b] s = true := fun w hw => (List.mem_cons.mp hw).elim (fun e => by rw [e]; exact hkt _ kt_w9) (hkt w)
  obtain ⟨o, ho⟩ : ∃ o, s.heap.size = o := ⟨_, rfl⟩
  have hbl : b < o := by omega
  obtain ⟨a0, l0, z0, r0, x0⟩ := ks_L_FIELD ho hts0 hgv
  obtain ⟨a1, l1, z1, r1, x1⟩ := ks_L_ONE ho hts0 hgv
  obtain ⟨a2, l2, z2, r2, x2⟩ := ks_L_SEVEN ho hts0 hgv
  obtain ⟨a3, l3, z3, r3, x3⟩ := ks_L_ROOT_POWER ho hts0 hgv
  obtain ⟨a4, l4, z4, r4, x4⟩ := ks_L_BASE_X ho hts0 hgv
  obtain ⟨a5, l5, z5, r5, x5⟩ := ks_L_BASE_Y ho hts0 hgv
  obtain ⟨a6, l6, z6, r6, x6⟩ := ks_L_FIELD_GAP ho hts0 hgv
  obtain ⟨a7, l7, z7, r7, x7⟩ := ks_L_ORDER ho hts0 hgv
  obtain ⟨a8, l8, z8, r8, x8⟩ := ks_L_ORDER_GAP ho hts0 hgv
  obtain ⟨b0, m0, y0, n0⟩ := ks_I_P ho hts0 hgv
  obtain ⟨b1, m1, y1, n1⟩ := ks_I_N ho hts0 hgv
  obtain ⟨b2, m2, y2, n2⟩ := ks_I_GX ho hts0 hgv
  obtain ⟨b3, m3, y3, n3⟩ := ks_I_GY ho hts0 hgv
  obtain ⟨A, e0, e1, e2, e3, e4, e5, e6, e7, e8⟩ : ∃ A : Nat → Nat, A 0 = a0 ∧ A 1 = a1 ∧ A 2 = a2 ∧ A 3 = a3 ∧ A 4 = a4 ∧ A 5 = a5 ∧ A 6 = a6 ∧ A 7 = a7 ∧ A 8 = a8 := ⟨fun k => match k with | 0 => a0 | 1 => a1 | 2 => a2 | 3 => a3 | 4 => a4 | 5 => a5 | 6 => a6 | 7 => a7 | _ => a8, rfl, rfl, rfl, rfl, rfl, rfl, rfl, rfl, rfl⟩
  obtain ⟨B, f0, f1, f2, f3⟩ : ∃ B : Nat → Nat, B 0 = b0 ∧ B 1 = b1 ∧ B 2 = b2 ∧ B 3 = b3 := ⟨fun k => match k with | 0 => b0 | 1 => b1 | 2 => b2 | _ => b3, rfl, rfl, rfl, rfl⟩
  subst e0
  subst e1
  subst e2
  subst e3
  subst e4
  subst e5
  subst e6
  subst e7
  subst e8
  subst f0
  subst f1
  subst f2
  subst f3
  obtain ⟨c0, i0, k0⟩ := u_known (C := R_Cu) (T := F_Cu) (N := 12) hts (fun w hw => List.mem_cons_of_mem _ (kt_F_Cu w hw)) (hkt _ kt_w94)
  obtain ⟨c1, i1, k1⟩ := u_known (C := R_Pr) (T := F_Pr) (N := 9) hts (fun w hw => List.mem_cons_of_mem _ (kt_F_Pr w hw)) (hkt _ kt_w44)
  obtain ⟨c2, i2, k2⟩ := u_known (C := R_Sp) (T := F_Sp) (N := 3) hts (fun w hw => List.mem_cons_of_mem _ (kt_F_Sp w hw)) (hkt _ kt_w21)
  obtain ⟨c3, i3, k3⟩ := u_known (C := R_Ke) (T := F_Ke) (N := 5) hts (fun w hw => List.mem_cons_of_mem _ (kt_F_Ke w hw)) (hkt _ kt_w10)
  obtain ⟨c4, i4, k4⟩ := u_known (C := R_Mo) (T := F_Mo) (N := 20) hts (fun w hw => List.mem_cons_of_mem _ (kt_F_Mo w hw)) (hkt _ kt_w369)
  obtain ⟨D, hD⟩ : ∃ D : va_G, u_Kn s R_Cu F_Cu 12 (D.1 0) (D.2 0) ∧ u_Kn s R_Pr F_Pr 9 (D.1 1) (D.2 1) ∧ u_Kn s R_Sp F_Sp 3 (D.1 2) (D.2 2) ∧ u_Kn s R_Ke F_Ke 5 (D.1 3) (D.2 3) ∧ u_Kn s R_Mo F_Mo 20 (D.1 4) (D.2 4) := ⟨(fun c => match c with | 0 => c0 | 1 => c1 | 2 => c2 | 3 => c3 | _ => c4, fun c => match c with | 0 => i0 | 1 => i1 | 2 => i2 | 3 => i3 | _ => i4), k0, k1, k2, k3, k4⟩
  have hKc : ∀ (c : Nat) (q : vw_C), kr_cl[c]? = some q → u_Kn s q.1 q.2.1 q.2.2 (D.1 c) (D.2 c) := fun c q hq => by
    have hc5 : c < 5 := (List.getElem?_eq_some_iff.mp hq).1
    rcases (show c = 0 ∨ c = 1 ∨ c = 2 ∨ c = 3 ∨ c = 4 by omega) with rfl | rfl | rfl | rfl | rfl
    · cases hq; exact hD.1
    · cases hq; exact hD.2.1
    · cases hq; exact hD.2.2.1
    · cases hq; exact hD.2.2.2.1
    · cases hq; exact hD.2.2.2.2
  obtain ⟨cL, kL, mL, fL, gL, jL⟩ := Cond.arrayClass_spec (hkt _ kt_w42)
  obtain ⟨cI, kI, mI, fI, gI, jI⟩ := Cond.arrayClass_spec (hkt _ kt_w437)
  obtain ⟨cZ, kZ, mZ, fZ, gZ, jZ⟩ := Cond.arrayClass_spec (hkt _ kt_w438)
  have w18 : (Cond.arrayOver (.array .long)).before #[Value.ref b] s = true := hts0 _ (List.mem_of_getElem? (i := 40) (by decide +kernel))
  have w20 : (Cond.arrayOver (.object "KeyCurve$Spot")).before #[Value.ref b] s = true := hts0 _ (List.mem_of_getElem? (i := 42) (by decide +kernel))
  have w375 : (Cond.arrayOver (.array .int)).before #[Value.ref b] s = true := hts0 _ (List.mem_of_getElem? (i := 397) (by decide +kernel))
  obtain ⟨mR, cR, kR, -, -, gR, jR, fR⟩ := arrayOverA_spec w18
  obtain ⟨mII, cII, kII, -, -, gII, jII, fII⟩ := arrayOverA_spec w375
  obtain ⟨mS, cS, kS, qS, -, gS, jS, fS⟩ := Cond.arrayOver_spec w20
  obtain ⟨tys, htys⟩ : ∃ tys : List (ClassId × FieldType), tys = [(cL, .long), (cR, .array .long), (cS, .object "KeyCurve$Spot"), (cI, .int), (cII, .array .int), (cZ, .boolean)] := ⟨_, rfl⟩
  have t0 : tys[0]? = some (cL, .long) := by rw [htys]; rfl
  have t1 : tys[1]? = some (cR, .array .long) := by rw [htys]; rfl
  have t2 : tys[2]? = some (cS, .object "KeyCurve$Spot") := by rw [htys]; rfl
  have t3 : tys[3]? = some (cI, .int) := by rw [htys]; rfl
  have t4 : tys[4]? = some (cII, .array .int) := by rw [htys]; rfl
  have t5 : tys[5]? = some (cZ, .boolean) := by rw [htys]; rfl
  have hK : va_K D kr_cl tys s := by
    refine ⟨hKc, fun k q hk => ?_⟩
    rw [htys] at hk
    have hk6 : k < 6 := (List.getElem?_eq_some_iff.mp hk).1
    rcases (show k = 0 ∨ k = 1 ∨ k = 2 ∨ k = 3 ∨ k = 4 ∨ k = 5 by omega) with rfl | rfl | rfl | rfl | rfl | rfl
    · cases hk; exact ⟨fun N z => ⟨(fun q hq => by cases hq), kL, gL, mL, jL⟩, fL⟩
    · cases hk; exact ⟨fun N z => ⟨(fun q hq => by cases hq), kR, gR, mR, jR⟩, fR⟩
    · cases hk; exact ⟨fun N z => ⟨(fun q hq => by cases hq), kS, gS, mS, jS⟩, kS, mS, gS, jS, qS, fS⟩
    · cases hk; exact ⟨fun N z => ⟨(fun q hq => by cases hq), kI, gI, mI, jI⟩, fI⟩
    · cases hk; exact ⟨fun N z => ⟨(fun q hq => by cases hq), kII, gII, mII, jII⟩, fII⟩
    · cases hk; exact ⟨fun N z => ⟨(fun q hq => by cases hq), kZ, gZ, mZ, jZ⟩, fZ⟩
  have hN : kr_N s := ⟨va_Nw.of rfl (hts0 _ (List.mem_of_getElem? (i := 263) (by decide +kernel))), va_Nw.of rfl (hts0 _ (List.mem_of_getElem? (i := 279) (by decide +kernel))), va_Nw.of rfl (hts0 _ (List.mem_of_getElem? (i := 289) (by decide +kernel))), va_Nw.of rfl (hts0 _ (List.mem_of_getElem? (i := 325) (by decide +kernel))), va_Nw.of rfl (hts0 _ (List.mem_of_getElem? (i := 346) (by decide +kernel)))⟩
  have hZC : kl_zC o A s.heap s := ⟨z0, z1, z2, z3, z4, z5⟩
  have hZM : kl_zM o B s.heap s := ⟨y0, y1, y2, y3⟩
  have gC : kl_gC o A s.heap s := fun k hk => by
    rcases (show k = 0 ∨ k = 1 ∨ k = 2 ∨ k = 3 ∨ k = 4 ∨ k = 5 ∨ k = 6 ∨ k = 7 ∨ k = 8 by omega) with rfl | rfl | rfl | rfl | rfl | rfl | rfl | rfl | rfl
    · exact ⟨l0, r0⟩
    · exact ⟨l1, r1⟩
    · exact ⟨l2, r2⟩
    · exact ⟨l3, r3⟩
    · exact ⟨l4, r4⟩
    · exact ⟨l5, r5⟩
    · exact ⟨l6, r6⟩
    · exact ⟨l7, r7⟩
    · exact ⟨l8, r8⟩
  have gM : kl_gM o B s.heap s := fun k hk => by
    rcases (show k = 0 ∨ k = 1 ∨ k = 2 ∨ k = 3 by omega) with rfl | rfl | rfl | rfl
    · exact ⟨m0, n0⟩
    · exact ⟨m1, n1⟩
    · exact ⟨m2, n2⟩
    · exact ⟨m3, n3⟩
  obtain ⟨e0, g1, g2, g3, g4, g5⟩ := x0
  obtain ⟨e7, u1, u2, u3, u4, u5⟩ := x7
  have q0 : e0.cls = cL := Option.some.inj ((hF (A 0) e0 (by rw [ho]; exact z0) g1).symm.trans fL)
  have q7 : e7.cls = cL := Option.some.inj ((hOr (A 7) e7 (by rw [ho]; exact z7) u1).symm.trans fL)
  have hsP := kl_src g1 g2 g3 q0 g4 g5
  have hsN := kl_src u1 u2 u3 q7 u4 u5
  have hl := lv_entry ([.ref b]) (n := 4) (Nat.le_of_ble_eq_true rfl)
  rw [lg_entry_eq]
  generalize (lg_sl ([.ref b]) ++ List.replicate (4 - (lg_sl ([.ref b])).length) Slot.unset).toArray = ls at hl ⊢
  have hl : lv_has ls 4 [(0, .ref b)] := hl
  refine kq_new (h := o) (fs := [.null, .null, .null, .null, .null]) hx hb hts kt_F_Ke t_Ke t_Ke_ok hown kt_w9 kt_w10 kt_w1 hK (ci := 3) rfl (fun j hj => by rcases (show j = 0 ∨ j = 1 ∨ j = 2 ∨ j = 3 ∨ j = 4 by omega) with rfl | rfl | rfl | rfl | rfl <;> rfl) (Nat.le_of_ble_eq_true rfl) (Nat.le_of_ble_eq_true rfl) ho d_law_0 (fun H1 hN1 s1 o1 => ?_)
  have hKB : kn_KB D tys A o H1 s := ⟨⟨hK, va_Nw.of rfl (hts0 _ (List.mem_of_getElem? (i := 80) (by decide +kernel)))⟩, va_AO.of w20, over_moved (Vm.Alike.refl _) w18, va_Nw.of rfl (hts0 _ (List.mem_of_getElem? (i := 44) (by decide +kernel))), z0.kept (fun a _ hn => o1 a (Nat.lt_of_not_le hn)), z6.kept (fun a _ hn => o1 a (Nat.lt_of_not_le hn)), z7.kept (fun a _ hn => o1 a (Nat.lt_of_not_le hn)), z8.kept (fun a _ hn => o1 a (Nat.lt_of_not_le hn))⟩
  refine lv_dup hx hb d_law_3 rfl ?_
  refine kq_callC (va_runI (As := []) (rest := [.ref o]) ⟨hx, hb, hml, hown, hts⟩ (c_Ke_init l D tys cL 0 t0 cR cS 1 2 t1 t2 A H1 o s1 hN1 (hsP.kept (o1 _ l0)) (hsN.kept (o1 _ l7)) l0 l7) (cwI 0 hts (kt_in kt_w13) rfl rfl rfl (hts _ (List.mem_cons_of_mem _ kt_w1)) (hts _ (List.mem_cons_of_mem _ kt_w11)) (hts _ (List.mem_cons_of_mem _ kt_w12)) rfl (by decide +kernel) ⟨Nat.le_of_ble_eq_true rfl, Nat.le_of_ble_eq_true rfl⟩) (kq_p2S kn_KB_s2 hKB) rfl rfl hl.1 rfl (lv_room (Nat.le_of_ble_eq_true rfl)) d_law_4 ⟨Nat.le_of_ble_eq_true rfl, Nat.le_of_ble_eq_true rfl⟩) (fun v2 H2 L2 hq2 hL2 => ?_)
  obtain ⟨rfl, s2, o2, hke⟩ := hq2
  refine W.eq (g2 := F0 m 7 ls [.ref o]) rfl ?_
  refine va_forget (fun q hq => by rw [ho]; exact hL2 q hq) ?_
  refine lv_astore_n hx hb d_law_7 rfl hl (by decide) rfl (fun ls hl => ?_)
  have hl : lv_has ls 4 [(1, .ref o), (0, .ref b)] := hl
  refine kq_new (h := o + 45) (fs := [.null, .null, .null, .null, .null, .null, .null, .null, .null, .null, .null, .null, .null, .null, .null, .null, .null, .int 0, .null, .null]) hx hb hts kt_F_Mo t_Mo t_Mo_ok hown kt_w368 kt_w369 kt_w5 hK (ci := 4) rfl (fun j hj => by rcases (show j = 0 ∨ j = 1 ∨ j = 2 ∨ j = 3 ∨ j = 4 ∨ j = 5 ∨ j = 6 ∨ j = 7 ∨ j = 8 ∨ j = 9 ∨ j = 10 ∨ j = 11 ∨ j = 12 ∨ j = 13 ∨ j = 14 ∨ j = 15 ∨ j = 16 ∨ j = 17 ∨ j = 18 ∨ j = 19 by omega) with rfl | rfl | rfl | rfl | rfl | rfl | rfl | rfl | rfl | rfl | rfl | rfl | rfl | rfl | rfl | rfl | rfl | rfl | rfl | rfl <;> rfl) (Nat.le_of_ble_eq_true rfl) (Nat.le_of_ble_eq_true rfl) s2 d_law_8 (fun H3 hN3 s3 o3 => ?_)
  refine lv_dup hx hb d_law_11 rfl ?_
  refine kq_callC (va_runI (As := []) (rest := [.ref (o + 45)]) ⟨hx, hb, hml, hown, hts⟩ (c_Mo_init l D tys cI cII cZ 3 4 5 t3 t4 t5 H3 (o + 45) s3 hN3) (cwI 0 hts (kt_in kt_w372) rfl rfl rfl (hts _ (List.mem_cons_of_mem _ kt_w5)) (hts _ (List.mem_cons_of_mem _ kt_w370)) (hts _ (List.mem_cons_of_mem _ kt_w371)) rfl (by decide +kernel) ⟨Nat.le_of_ble_eq_true rfl, Nat.le_of_ble_eq_true rfl⟩) (kq_preS kn_MB_st ⟨hK, over_moved (Vm.Alike.refl _) w375⟩) rfl rfl hl.1 rfl (lv_room (Nat.le_of_ble_eq_true rfl)) d_law_12 ⟨Nat.le_of_ble_eq_true rfl, Nat.le_of_ble_eq_true rfl⟩) (fun v4 H4 L4 hq4 hL4 => ?_)
  obtain ⟨rfl, s4, o4, hmo⟩ := hq4
  refine W.eq (g2 := F0 m 15 ls [.ref (o + 45)]) rfl ?_
  refine va_forget (fun q hq => by rw [ho]; exact Nat.le_trans (Nat.le_add_right _ _) (hL4 q hq)) ?_
  refine lv_astore_n hx hb d_law_15 rfl hl (by decide) rfl (fun ls hl => ?_)
  have hl : lv_has ls 4 [(2, .ref (o + 45)), (1, .ref o), (0, .ref b)] := hl
  refine lv_iconst (v := nI 0) hx hb d_law_16 (by decide) ?_
  refine lv_istore_n hx hb d_law_17 rfl hl (by decide) rfl (fun ls hl => ?_)
  have hl : lv_has ls 4 [(3, .int (nI 0)), (2, .ref (o + 45)), (1, .ref o), (0, .ref b)] := hl
  have hom : o ≤ o + 45 := Nat.le_add_right _ _
  obtain ⟨v, hc, hv⟩ := kl_newC (H0 := s.heap) gC hke
  have hc4 := hc.same (H1 := H4) (fun q q1 q2 => (o4 q q2).trans (o3 q q2))
  obtain ⟨w, cs, hm, hw, hcs⟩ := kl_newM (H0 := s.heap) gM hom hmo
  have hR : kl_R o (o + 45) v w (fun _ => true) cs := fun j hj => ⟨by rw [hv _ (by unfold kl_LC; omega), hw _ (by unfold kl_LM; omega)], (hcs j hj).symm, fun z => by cases z⟩
  have he : ∀ q, q < o → H4[q]? = s.heap[q]? := fun q hq => (o4 q (by omega)).trans ((o3 q (by omega)).trans ((o2 q hq).trans (o1 q hq)))
  have hI : kl_I o (o + 45) A B cL cR cS cI cII cZ D s.heap H4 v w (fun _ => true) cs false := ⟨s4, he, hc4, hm, hR⟩
  have hG : kl_G o (o + 45) b L A B xs cL cR cS cI cII cZ D tys 0 1 2 3 4 5 s.heap s := ⟨ho, rfl, hL, hbl, hK, hN, hZC, gC, hZM, gM, t0, t1, t2, t3, t4, t5, hX⟩
  exact ll_law hx hb hml hown hts hG hr hlocks 512 0 H4 v w _ cs false ls (by omega) (by omega) hI (lv_sub hl [0, 1, 2, 3] rfl)
