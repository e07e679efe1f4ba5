/-! The constructor of KeyCurve (own rows). -/
def kn_KB (D : va_G) (tys : List (ClassId × FieldType)) (A : Nat → Nat) (o : Nat) (H : Heap) (U : State) : Prop := kn_PB D tys U ∧ va_AO "KeyCurve$Spot" U ∧ (Cond.arrayOver (.array .long)).before #[] U = true ∧ va_Nw (.methodLinkNest "KeyCurve" 20 ⟨"KeyCurve$Spot", "<init>", "()V"⟩ "KeyCurve") U ∧ va_Z "KeyCurve" "FIELD" "[J" (.ref (A 0)) (fun q => o ≤ q) U H ∧ va_Z "KeyCurve" "FIELD_GAP" "[J" (.ref (A 6)) (fun q => o ≤ q) U H ∧ va_Z "KeyCurve" "ORDER" "[J" (.ref (A 7)) (fun q => o ≤ q) U H ∧ va_Z "KeyCurve" "ORDER_GAP" "[J" (.ref (A 8)) (fun q => o ≤ q) U H
theorem kn_KB_s2 {D : va_G} {tys : List (ClassId × FieldType)} {A : Nat → Nat} {o : Nat} {H : Heap} : kq_s2 (kn_KB D tys A o H) := fun u U hv q => ⟨kn_PB_s2 u U hv q.1, va_AO.moved (kq_al hv) q.2.1, over_moved (kq_al hv) q.2.2.1, hv.elim (fun e => va_Nw.same rfl e q.2.2.2.1) (fun w => va_Nw.warmM w q.2.2.2.1), q.2.2.2.2.1.moved (kq_al hv), q.2.2.2.2.2.1.moved (kq_al hv), q.2.2.2.2.2.2.1.moved (kq_al hv), q.2.2.2.2.2.2.2.moved (kq_al hv)⟩
/-- a new KeyCurve at o -/
def kn_ke (D : va_G) (cL cR cS : ClassId) (A : Nat → Nat) (H : Heap) (o : Nat) : Prop := va_P D kr_cl [(o, .inr (3, [.ref (o + 1), .ref (o + 6), .ref (o + 19), .ref (o + 26), .ref (o + 33)]))] H ∧ H[o + 1]? = some (kn_R cR 4 4 (fun j => o + 2 + j)) ∧ (∀ j, j < 4 → H[o + 2 + j]? = some (kq_L cL 8 0)) ∧ H[o + 6]? = some (kn_R cS 4 4 (fun j => o + 7 + 3 * j)) ∧ (∀ j, j < 4 → kn_sp D cL H (o + 7 + 3 * j)) ∧ kn_pr D cL H (o + 19) (A 0) (A 6) 2 kP ∧ kn_pr D cL H (o + 26) (A 7) (A 8) 5 kN ∧ kn_cu D cL H (o + 33) (o + 19)
theorem kn_kP : 2 ≤ kw_d kP 0 := by decide +kernel
theorem kn_kN : 2 ≤ kw_d kN 0 := by decide +kernel
theorem d_Ke_init_0 : decode b_Ke_init 0 = .ok (.aload_n 0, 1) := by decide +kernel
theorem d_Ke_init_1 : decode b_Ke_init 1 = .ok (.invokespecial 1, 3) := by decide +kernel
theorem d_Ke_init_4 : decode b_Ke_init 4 = .ok (.aload_n 0, 1) := by decide +kernel
theorem d_Ke_init_5 : decode b_Ke_init 5 = .ok (.iconst 4, 1) := by decide +kernel
theorem d_Ke_init_6 : decode b_Ke_init 6 = .ok (.bipush 8, 2) := by decide +kernel
theorem d_Ke_init_8 : decode b_Ke_init 8 = .ok (.multianewarray 9 2, 4) := by decide +kernel
theorem d_Ke_init_12 : decode b_Ke_init 12 = .ok (.putfield 11, 3) := by decide +kernel
theorem d_Ke_init_15 : decode b_Ke_init 15 = .ok (.aload_n 0, 1) := by decide +kernel
theorem d_Ke_init_16 : decode b_Ke_init 16 = .ok (.iconst 4, 1) := by decide +kernel
theorem d_Ke_init_17 : decode b_Ke_init 17 = .ok (.anewarray 14, 3) := by decide +kernel
theorem d_Ke_init_20 : decode b_Ke_init 20 = .ok (.putfield 16, 3) := by decide +kernel
theorem d_Ke_init_23 : decode b_Ke_init 23 = .ok (.iconst 0, 1) := by decide +kernel
theorem d_Ke_init_24 : decode b_Ke_init 24 = .ok (.istore_n 1, 1) := by decide +kernel
theorem d_Ke_init_25 : decode b_Ke_init 25 = .ok (.iload_n 1, 1) := by decide +kernel
theorem d_Ke_init_26 : decode b_Ke_init 26 = .ok (.iconst 4, 1) := by decide +kernel
theorem d_Ke_init_27 : decode b_Ke_init 27 = .ok (.if_icmp .ge 22, 3) := by decide +kernel
theorem d_Ke_init_30 : decode b_Ke_init 30 = .ok (.aload_n 0, 1) := by decide +kernel
theorem d_Ke_init_31 : decode b_Ke_init 31 = .ok (.getfield 16, 3) := by decide +kernel
theorem d_Ke_init_34 : decode b_Ke_init 34 = .ok (.iload_n 1, 1) := by decide +kernel
theorem d_Ke_init_35 : decode b_Ke_init 35 = .ok (.new 14, 3) := by decide +kernel
theorem d_Ke_init_38 : decode b_Ke_init 38 = .ok (.dup, 1) := by decide +kernel
theorem d_Ke_init_39 : decode b_Ke_init 39 = .ok (.invokespecial 20, 3) := by decide +kernel
theorem d_Ke_init_42 : decode b_Ke_init 42 = .ok (.aastore, 1) := by decide +kernel
theorem d_Ke_init_43 : decode b_Ke_init 43 = .ok (.iinc 1 1, 3) := by decide +kernel
theorem d_Ke_init_46 : decode b_Ke_init 46 = .ok (.goto (-21), 3) := by decide +kernel
theorem d_Ke_init_49 : decode b_Ke_init 49 = .ok (.aload_n 0, 1) := by decide +kernel
theorem d_Ke_init_50 : decode b_Ke_init 50 = .ok (.new 21, 3) := by decide +kernel
theorem d_Ke_init_53 : decode b_Ke_init 53 = .ok (.dup, 1) := by decide +kernel
theorem d_Ke_init_54 : decode b_Ke_init 54 = .ok (.getstatic 23, 3) := by decide +kernel
theorem d_Ke_init_57 : decode b_Ke_init 57 = .ok (.getstatic 27, 3) := by decide +kernel
theorem d_Ke_init_60 : decode b_Ke_init 60 = .ok (.iconst 2, 1) := by decide +kernel
theorem d_Ke_init_61 : decode b_Ke_init 61 = .ok (.invokespecial 30, 3) := by decide +kernel
theorem d_Ke_init_64 : decode b_Ke_init 64 = .ok (.putfield 33, 3) := by decide +kernel
theorem d_Ke_init_67 : decode b_Ke_init 67 = .ok (.aload_n 0, 1) := by decide +kernel
theorem d_Ke_init_68 : decode b_Ke_init 68 = .ok (.new 21, 3) := by decide +kernel
theorem d_Ke_init_71 : decode b_Ke_init 71 = .ok (.dup, 1) := by decide +kernel
theorem d_Ke_init_72 : decode b_Ke_init 72 = .ok (.getstatic 37, 3) := by decide +kernel
theorem d_Ke_init_75 : decode b_Ke_init 75 = .ok (.getstatic 40, 3) := by decide +kernel
theorem d_Ke_init_78 : decode b_Ke_init 78 = .ok (.iconst 5, 1) := by decide +kernel
theorem d_Ke_init_79 : decode b_Ke_init 79 = .ok (.invokespecial 30, 3) := by decide +kernel
theorem d_Ke_init_82 : decode b_Ke_init 82 = .ok (.putfield 43, 3) := by decide +kernel
theorem d_Ke_init_85 : decode b_Ke_init 85 = .ok (.aload_n 0, 1) := by decide +kernel
theorem d_Ke_init_86 : decode b_Ke_init 86 = .ok (.new 46, 3) := by decide +kernel
theorem d_Ke_init_89 : decode b_Ke_init 89 = .ok (.dup, 1) := by decide +kernel
theorem d_Ke_init_90 : decode b_Ke_init 90 = .ok (.aload_n 0, 1) := by decide +kernel
theorem d_Ke_init_91 : decode b_Ke_init 91 = .ok (.getfield 33, 3) := by decide +kernel
theorem d_Ke_init_94 : decode b_Ke_init 94 = .ok (.invokespecial 48, 3) := by decide +kernel
theorem d_Ke_init_97 : decode b_Ke_init 97 = .ok (.putfield 51, 3) := by decide +kernel
theorem d_Ke_init_100 : decode b_Ke_init 100 = .ok (.return_, 1) := by decide +kernel
set_option maxHeartbeats 4000000 in
set_option maxRecDepth 100000 in
theorem c_Ke_init (l : Launch) (D : va_G) (tys : List (ClassId × FieldType)) (cL : ClassId) (tL : Nat) (hL0 : tys[tL]? = some (cL, .long)) (cR cS : ClassId) (tR tS : Nat) (hR0 : tys[tR]? = some (cR, .array .long)) (hS0 : tys[tS]? = some (cS, .object "KeyCurve$Spot")) (A : Nat → Nat) (H : Heap) (o : Nat) (hz : H.size = o + 1) (hP : va_P D kr_cl [(o, .inr (3, [.null, .null, .null, .null, .null]))] H) (hsP : kn_src H cL (A 0) kP) (hsN : kn_src H cL (A 7) kN) (hA0 : A 0 < o) (hA7 : A 7 < o) : Met l y_Ke_init w_Ke_init ({ frames := 2, cells := 44, slots := 346, locals := 38 }) (kq_P [.ref o] H (kn_KB D tys A o H)) (kq_Q (fun o1 H1 => o1 = none ∧ H1.size = o + 45 ∧ (∀ q : Nat, q < o → H1[q]? = H[q]?) ∧ kn_ke D cL cR cS A H1 o)) 44 346 (fun q => o ≤ q) := by
  refine Met.ofW (cc := b_Ke_init) (maxL := 2) (ret := none) (by decide) rfl ?_
  intro p e s m args below meth c s₁ B0 hml hv
  obtain ⟨rfl, hH, hPB, hAO, hOv, hMl, hZ0, hZ1, hZ2, hZ3⟩ := hv
  have hx := B0.exec
  have hb := B0.bytes
  have hret := B0.returns
  have hts := atoms_spec (ws := w_Ke_init) B0.pre
  have hown : s.vm.findClass R_Ke = some m.cls := findClass_of_methodNamed B0.named
  have hlocks := B0.notSynchronized
  rw [hH]
  have hl := lv_entry ([.ref o]) (n := 2) (Nat.le_of_ble_eq_true rfl)
  rw [lg_entry_eq]
  generalize (lg_sl ([.ref o]) ++ List.replicate (2 - (lg_sl ([.ref o])).length) Slot.unset).toArray = ls at hl ⊢
  have hl : lv_has ls 2 [(0, .ref o)] := hl
  have hK := hPB.1
  have hcL : s.vm.findClass ("[" ++ FieldType.long.toString) = some cL := (hK.2 tL _ hL0).2
  have hcR : s.vm.findClass ("[" ++ (FieldType.array .long).toString) = some cR := (hK.2 tR _ hR0).2
  have hcS : s.vm.findClass ("[" ++ (FieldType.object "KeyCurve$Spot").toString) = some cS := by
    obtain ⟨kA, comp, k1, k2, k3, k4⟩ := (hK.2 tS _ hS0).2
    exact k4
  have hin : meth.name = "<init>" := (name_of_methodNamed B0.named B0.method).1
  have hlc : ∀ q ∈ ([] : List Loc), o ≤ q.base := fun q h => by cases h
  have kp : ∀ q : Nat, q < o → H[q]? = H[q]? := fun _ _ => rfl
  have hC := kn_C.nil H o
  refine lv_aload_n hx hb d_Ke_init_0 rfl (lv_at hl 0 rfl) ?_
  refine kq_obj hx hb (by rw [hml]; exact hl.1.symm) hts hown kt_w14 (Nat.le_of_ble_eq_true rfl) (Nat.le_of_ble_eq_true rfl) d_Ke_init_1 ?_
  refine lv_aload_n hx hb d_Ke_init_4 rfl (lv_at hl 0 rfl) ?_
  refine lv_iconst (v := nI 4) hx hb d_Ke_init_5 (by decide) ?_
  refine lv_bipush (v := nI 8) hx hb d_Ke_init_6 (by decide) ?_
  refine kq_mna (h := o + 1) (N' := 4) (K' := 8) hx hb hown (hts _ (List.mem_cons_of_mem _ kt_w17)) (over_moved (Vm.Alike.refl _) hOv) (hts _ (List.mem_cons_of_mem _ kt_w42)) hcR hcL (nI_pos (by decide)) (nI_pos (by decide)) (nI_clamp (by decide)) (nI_clamp (by decide)) (by decide) (by decide) (by decide) rfl rfl (Nat.le_of_ble_eq_true rfl) (Nat.le_of_ble_eq_true rfl) hz d_Ke_init_8 (fun H1 z1 o1 e1 r1 => ?_)
  have hP := kn_keep hP (o1 o (by omega))
  have g1 : H1[o + 1]? = some (kn_R cR 4 4 (fun j => o + 2 + j)) := e1
  have g2 : ∀ j : Nat, j < 4 → H1[o + 2 + j]? = some (kq_L cL 8 0) := fun j hj => by
    have q := r1 j hj
    rw [kn_L0] at q
    exact q
  have hz : H1.size = o + 6 := z1
  have kp : ∀ q : Nat, q < o → H1[q]? = H[q]? := fun q hq => (o1 q (by omega)).trans (kp q hq)
  refine kq_putF hx hb hts kt_F_Ke t_Ke t_Ke_ok n_Ke hown hK hP rfl 0 (by decide) kt_w136 rfl hin rfl (ty := t_Ke 0) (by decide +kernel) rfl rfl (Nat.le_of_ble_eq_true rfl) d_Ke_init_12 (fun H2 L2 hP z2 o2 hL2 => ?_)
  have hz : H2.size = o + 6 := z2.trans hz
  have hP : va_P D kr_cl [(o, .inr (3, [.ref (o + 1), .null, .null, .null, .null]))] H2 := hP
  have kp : ∀ q : Nat, q < o → H2[q]? = H[q]? := fun q hq => (o2 q (by omega)).trans (kp q hq)
  have g1 : H2[o + 1]? = some (kn_R cR 4 4 (fun j => o + 2 + j)) := (o2 _ (by omega)).trans g1
  have g2 : ∀ j : Nat, j < 4 → H2[o + 2 + j]? = some (kq_L cL 8 0) := fun j hj => (o2 _ (by omega)).trans (g2 j hj)
  have hlc := t_lL (free := fun q => o ≤ q) hlc (fun q h => Nat.le_of_eq (hL2 q h).symm)
  refine lv_aload_n hx hb d_Ke_init_15 rfl (lv_at hl 0 rfl) ?_
  refine lv_iconst (v := nI 4) hx hb d_Ke_init_16 (by decide) ?_
  refine kq_newq (h := o + 6) (N' := 4) hx hb hown (hts _ (List.mem_cons_of_mem _ kt_w19)) hAO hcS (fun j => o + 7 + 3 * j) (nI_pos (by decide)) (nI_clamp (by decide)) (by decide) (Nat.le_of_ble_eq_true rfl) (Nat.le_of_ble_eq_true rfl) hz d_Ke_init_17 (fun H3 g6 z3 o3 => ?_)
  have hP := kn_keep hP (o3 o (by omega))
  have g1 : H3[o + 1]? = some (kn_R cR 4 4 (fun j => o + 2 + j)) := (o3 _ (by omega)).trans g1
  have g2 : ∀ j : Nat, j < 4 → H3[o + 2 + j]? = some (kq_L cL 8 0) := fun j hj => (o3 _ (by omega)).trans (g2 j hj)
  have hz : H3.size = o + 7 := z3
  have kp : ∀ q : Nat, q < o → H3[q]? = H[q]? := fun q hq => (o3 q (by omega)).trans (kp q hq)
  refine kq_putF hx hb hts kt_F_Ke t_Ke t_Ke_ok n_Ke hown hK hP rfl 1 (by decide) kt_w137 rfl hin rfl (ty := t_Ke 1) (by decide +kernel) rfl rfl (Nat.le_of_ble_eq_true rfl) d_Ke_init_20 (fun H4 L4 hP z4 o4 hL4 => ?_)
  have hz : H4.size = o + 7 := z4.trans hz
  have hP : va_P D kr_cl [(o, .inr (3, [.ref (o + 1), .ref (o + 6), .null, .null, .null]))] H4 := hP
  have kp : ∀ q : Nat, q < o → H4[q]? = H[q]? := fun q hq => (o4 q (by omega)).trans (kp q hq)
  have g1 : H4[o + 1]? = some (kn_R cR 4 4 (fun j => o + 2 + j)) := (o4 _ (by omega)).trans g1
  have g2 : ∀ j : Nat, j < 4 → H4[o + 2 + j]? = some (kq_L cL 8 0) := fun j hj => (o4 _ (by omega)).trans (g2 j hj)
  have g6 : H4[o + 6]? = some (kn_R cS 4 0 (fun j => o + 7 + 3 * j)) := (o4 _ (by omega)).trans g6
  have hlc := t_lL (free := fun q => o ≤ q) hlc (fun q h => Nat.le_of_eq (hL4 q h).symm)
  refine lv_iconst (v := nI 0) hx hb d_Ke_init_23 (by decide) ?_
  refine lv_istore_n hx hb d_Ke_init_24 rfl hl (by decide) rfl (fun ls hl => ?_)
  have hl : lv_has ls 2 [(1, .int (nI 0)), (0, .ref o)] := hl
  refine lv_iload_n hx hb d_Ke_init_25 rfl (lv_at hl 0 rfl) ?_
  refine lv_iconst (v := nI 4) hx hb d_Ke_init_26 (by decide) ?_
  refine lv_icmp_ge hx hb d_Ke_init_27 rfl (fun hc => ?_) (fun hc => ?_)
  · exact absurd hc (by decide)
  · refine lv_aload_n hx hb d_Ke_init_30 rfl (lv_at hl 1 rfl) ?_
    refine kq_get hx hb hts kt_F_Ke hown hK hP rfl 1 (by decide) kt_w137 rfl d_Ke_init_31 ?_
    refine lv_iload_n hx hb d_Ke_init_34 rfl (lv_at hl 0 rfl) ?_
    refine kq_new (h := o + 7 + 3 * 0) (fs := [.null, .null, .int 0]) hx hb hts kt_F_Sp t_Sp t_Sp_ok hown kt_w19 kt_w21 kt_w2 hK (ci := 2) rfl (fun j hj => by rcases (show j = 0 ∨ j = 1 ∨ j = 2 by omega) with rfl | rfl | rfl <;> rfl) (Nat.le_of_ble_eq_true rfl) (Nat.le_of_ble_eq_true rfl) (by omega) d_Ke_init_35 (fun H5 hS z5 o5 => ?_)
    have hP := kn_keep hP (o5 o (by omega))
    have kp : ∀ q : Nat, q < o → H5[q]? = H[q]? := fun q hq => (o5 q (by omega)).trans (kp q hq)
    have g1 : H5[o + 1]? = some (kn_R cR 4 4 (fun j => o + 2 + j)) := (o5 _ (by omega)).trans g1
    have g2 : ∀ j : Nat, j < 4 → H5[o + 2 + j]? = some (kq_L cL 8 0) := fun j hj => (o5 _ (by omega)).trans (g2 j hj)
    have g6 : H5[o + 6]? = some (kn_R cS 4 0 (fun j => o + 7 + 3 * j)) := (o5 _ (by omega)).trans g6
    have hz : H5.size = o + 7 + 3 * 0 + 1 := z5
    refine lv_dup hx hb d_Ke_init_38 rfl ?_
    refine kq_callC (va_runIN (As := []) (rest := [.ref (o + 7 + 3 * 0), .int (nI 0), .ref (o + 6)]) ⟨hx, hb, hml, hown, hts⟩ (c_Sp_init l D tys cL tL hL0 H5 (o + 7 + 3 * 0) hz hS) ⟨va_cnB 0 hts (kt_in kt_w24) rfl rfl rfl hMl (hts _ (List.mem_cons_of_mem _ kt_w2)) (by decide +kernel) ⟨Nat.le_of_ble_eq_true rfl, Nat.le_of_ble_eq_true rfl⟩, rfl, hts _ (List.mem_cons_of_mem _ kt_w23)⟩ (kq_preS kn_K_st hK) rfl rfl hl.1 rfl (lv_room (Nat.le_of_ble_eq_true rfl)) d_Ke_init_39 ⟨Nat.le_of_ble_eq_true rfl, Nat.le_of_ble_eq_true rfl⟩) (fun v6 H6 L6 hq6 hL6 => ?_)
    obtain ⟨rfl, z6, o6, hs0⟩ := hq6
    refine W.eq (g2 := F0 m 42 ls [.ref (o + 7 + 3 * 0), .int (nI 0), .ref (o + 6)]) rfl ?_
    have hP := kn_keep hP (o6 o (by omega))
    have hlc := t_lL (free := fun q => o ≤ q) hlc (fun q h => Nat.le_trans (by omega) (hL6 q h))
    have kp : ∀ q : Nat, q < o → H6[q]? = H[q]? := fun q hq => (o6 q (by omega)).trans (kp q hq)
    have g1 : H6[o + 1]? = some (kn_R cR 4 4 (fun j => o + 2 + j)) := (o6 _ (by omega)).trans g1
    have g2 : ∀ j : Nat, j < 4 → H6[o + 2 + j]? = some (kq_L cL 8 0) := fun j hj => (o6 _ (by omega)).trans (g2 j hj)
    have g6 : H6[o + 6]? = some (kn_R cS 4 0 (fun j => o + 7 + 3 * j)) := (o6 _ (by omega)).trans g6
    have hz : H6.size = o + 7 + 3 * 0 + 3 := z6
    refine kq_aast hx hb hK tS hS0 (r := (R_Sp, F_Sp, 3)) (ci := 2) rfl g6 hs0.1 (by decide) (by decide) rfl d_Ke_init_42 (fun H7 g6 z7 o7 => ?_)
    have hP := kn_keep hP (o7 o (by omega))
    have hlc := t_lc (free := fun q => o ≤ q) (a := o + 6) (i := 0) hlc (by omega)
    have kp : ∀ q : Nat, q < o → H7[q]? = H[q]? := fun q hq => (o7 q (by omega)).trans (kp q hq)
    have g1 : H7[o + 1]? = some (kn_R cR 4 4 (fun j => o + 2 + j)) := (o7 _ (by omega)).trans g1
    have g2 : ∀ j : Nat, j < 4 → H7[o + 2 + j]? = some (kq_L cL 8 0) := fun j hj => (o7 _ (by omega)).trans (g2 j hj)
    have hs0 : kn_sp D cL H7 (o + 7 + 3 * 0) := hs0.kept (fun q q1 q2 => o7 q (by omega))
    have hz : H7.size = o + 7 + 3 * 0 + 3 := z7.trans hz
    refine lv_iinc (k := 0) (v := nI 1) hx hb d_Ke_init_43 hl rfl (by decide) (by decide) rfl (fun ls hl => ?_)
    have hl : lv_has ls 2 [(1, .int (nI 1)), (0, .ref o)] := hl
    refine lv_goto hx hb d_Ke_init_46 rfl ?_
    refine lv_iload_n hx hb d_Ke_init_25 rfl (lv_at hl 0 rfl) ?_
    refine lv_iconst (v := nI 4) hx hb d_Ke_init_26 (by decide) ?_
    refine lv_icmp_ge hx hb d_Ke_init_27 rfl (fun hc => ?_) (fun hc => ?_)
    · exact absurd hc (by decide)
    · refine lv_aload_n hx hb d_Ke_init_30 rfl (lv_at hl 1 rfl) ?_
      refine kq_get hx hb hts kt_F_Ke hown hK hP rfl 1 (by decide) kt_w137 rfl d_Ke_init_31 ?_
      refine lv_iload_n hx hb d_Ke_init_34 rfl (lv_at hl 0 rfl) ?_
      refine kq_new (h := o + 7 + 3 * 1) (fs := [.null, .null, .int 0]) hx hb hts kt_F_Sp t_Sp t_Sp_ok hown kt_w19 kt_w21 kt_w2 hK (ci := 2) rfl (fun j hj => by rcases (show j = 0 ∨ j = 1 ∨ j = 2 by omega) with rfl | rfl | rfl <;> rfl) (Nat.le_of_ble_eq_true rfl) (Nat.le_of_ble_eq_true rfl) (by omega) d_Ke_init_35 (fun H8 hS z8 o8 => ?_)
      have hP := kn_keep hP (o8 o (by omega))
      have kp : ∀ q : Nat, q < o → H8[q]? = H[q]? := fun q hq => (o8 q (by omega)).trans (kp q hq)
      have g1 : H8[o + 1]? = some (kn_R cR 4 4 (fun j => o + 2 + j)) := (o8 _ (by omega)).trans g1
      have g2 : ∀ j : Nat, j < 4 → H8[o + 2 + j]? = some (kq_L cL 8 0) := fun j hj => (o8 _ (by omega)).trans (g2 j hj)
      have hs0 : kn_sp D cL H8 (o + 7 + 3 * 0) := hs0.kept (fun q q1 q2 => o8 q (by omega))
      have g6 : H8[o + 6]? = some (kn_R cS 4 1 (fun j => o + 7 + 3 * j)) := (o8 _ (by omega)).trans g6
      have hz : H8.size = o + 7 + 3 * 1 + 1 := z8
      refine lv_dup hx hb d_Ke_init_38 rfl ?_
      refine kq_callC (va_runIN (As := []) (rest := [.ref (o + 7 + 3 * 1), .int (nI 1), .ref (o + 6)]) ⟨hx, hb, hml, hown, hts⟩ (c_Sp_init l D tys cL tL hL0 H8 (o + 7 + 3 * 1) hz hS) ⟨va_cnB 0 hts (kt_in kt_w24) rfl rfl rfl hMl (hts _ (List.mem_cons_of_mem _ kt_w2)) (by decide +kernel) ⟨Nat.le_of_ble_eq_true rfl, Nat.le_of_ble_eq_true rfl⟩, rfl, hts _ (List.mem_cons_of_mem _ kt_w23)⟩ (kq_preS kn_K_st hK) rfl rfl hl.1 rfl (lv_room (Nat.le_of_ble_eq_true rfl)) d_Ke_init_39 ⟨Nat.le_of_ble_eq_true rfl, Nat.le_of_ble_eq_true rfl⟩) (fun v9 H9 L9 hq9 hL9 => ?_)
      obtain ⟨rfl, z9, o9, hs1⟩ := hq9
      refine W.eq (g2 := F0 m 42 ls [.ref (o + 7 + 3 * 1), .int (nI 1), .ref (o + 6)]) rfl ?_
      have hP := kn_keep hP (o9 o (by omega))
      have hlc := t_lL (free := fun q => o ≤ q) hlc (fun q h => Nat.le_trans (by omega) (hL9 q h))
      have kp : ∀ q : Nat, q < o → H9[q]? = H[q]? := fun q hq => (o9 q (by omega)).trans (kp q hq)
      have g1 : H9[o + 1]? = some (kn_R cR 4 4 (fun j => o + 2 + j)) := (o9 _ (by omega)).trans g1
      have g2 : ∀ j : Nat, j < 4 → H9[o + 2 + j]? = some (kq_L cL 8 0) := fun j hj => (o9 _ (by omega)).trans (g2 j hj)
      have hs0 : kn_sp D cL H9 (o + 7 + 3 * 0) := hs0.kept (fun q q1 q2 => o9 q (by omega))
      have g6 : H9[o + 6]? = some (kn_R cS 4 1 (fun j => o + 7 + 3 * j)) := (o9 _ (by omega)).trans g6
      have hz : H9.size = o + 7 + 3 * 1 + 3 := z9
      refine kq_aast hx hb hK tS hS0 (r := (R_Sp, F_Sp, 3)) (ci := 2) rfl g6 hs1.1 (by decide) (by decide) rfl d_Ke_init_42 (fun H10 g6 z10 o10 => ?_)
      have hP := kn_keep hP (o10 o (by omega))
      have hlc := t_lc (free := fun q => o ≤ q) (a := o + 6) (i := 1) hlc (by omega)
      have kp : ∀ q : Nat, q < o → H10[q]? = H[q]? := fun q hq => (o10 q (by omega)).trans (kp q hq)
      have g1 : H10[o + 1]? = some (kn_R cR 4 4 (fun j => o + 2 + j)) := (o10 _ (by omega)).trans g1
      have g2 : ∀ j : Nat, j < 4 → H10[o + 2 + j]? = some (kq_L cL 8 0) := fun j hj => (o10 _ (by omega)).trans (g2 j hj)
      have hs0 : kn_sp D cL H10 (o + 7 + 3 * 0) := hs0.kept (fun q q1 q2 => o10 q (by omega))
      have hs1 : kn_sp D cL H10 (o + 7 + 3 * 1) := hs1.kept (fun q q1 q2 => o10 q (by omega))
      have hz : H10.size = o + 7 + 3 * 1 + 3 := z10.trans hz
      refine lv_iinc (k := 0) (v := nI 2) hx hb d_Ke_init_43 hl rfl (by decide) (by decide) rfl (fun ls hl => ?_)
      have hl : lv_has ls 2 [(1, .int (nI 2)), (0, .ref o)] := hl
      refine lv_goto hx hb d_Ke_init_46 rfl ?_
      refine lv_iload_n hx hb d_Ke_init_25 rfl (lv_at hl 0 rfl) ?_
      refine lv_iconst (v := nI 4) hx hb d_Ke_init_26 (by decide) ?_
      refine lv_icmp_ge hx hb d_Ke_init_27 rfl (fun hc => ?_) (fun hc => ?_)
      · exact absurd hc (by decide)
      · refine lv_aload_n hx hb d_Ke_init_30 rfl (lv_at hl 1 rfl) ?_
        refine kq_get hx hb hts kt_F_Ke hown hK hP rfl 1 (by decide) kt_w137 rfl d_Ke_init_31 ?_
        refine lv_iload_n hx hb d_Ke_init_34 rfl (lv_at hl 0 rfl) ?_
        refine kq_new (h := o + 7 + 3 * 2) (fs := [.null, .null, .int 0]) hx hb hts kt_F_Sp t_Sp t_Sp_ok hown kt_w19 kt_w21 kt_w2 hK (ci := 2) rfl (fun j hj => by rcases (show j = 0 ∨ j = 1 ∨ j = 2 by omega) with rfl | rfl | rfl <;> rfl) (Nat.le_of_ble_eq_true rfl) (Nat.le_of_ble_eq_true rfl) (by omega) d_Ke_init_35 (fun H11 hS z11 o11 => ?_)
        have hP := kn_keep hP (o11 o (by omega))
        have kp : ∀ q : Nat, q < o → H11[q]? = H[q]? := fun q hq => (o11 q (by omega)).trans (kp q hq)
        have g1 : H11[o + 1]? = some (kn_R cR 4 4 (fun j => o + 2 + j)) := (o11 _ (by omega)).trans g1
        have g2 : ∀ j : Nat, j < 4 → H11[o + 2 + j]? = some (kq_L cL 8 0) := fun j hj => (o11 _ (by omega)).trans (g2 j hj)
        have hs0 : kn_sp D cL H11 (o + 7 + 3 * 0) := hs0.kept (fun q q1 q2 => o11 q (by omega))
        have hs1 : kn_sp D cL H11 (o + 7 + 3 * 1) := hs1.kept (fun q q1 q2 => o11 q (by omega))
        have g6 : H11[o + 6]? = some (kn_R cS 4 2 (fun j => o + 7 + 3 * j)) := (o11 _ (by omega)).trans g6
        have hz : H11.size = o + 7 + 3 * 2 + 1 := z11
        refine lv_dup hx hb d_Ke_init_38 rfl ?_
        refine kq_callC (va_runIN (As := []) (rest := [.ref (o + 7 + 3 * 2), .int (nI 2), .ref (o + 6)]) ⟨hx, hb, hml, hown, hts⟩ (c_Sp_init l D tys cL tL hL0 H11 (o + 7 + 3 * 2) hz hS) ⟨va_cnB 0 hts (kt_in kt_w24) rfl rfl rfl hMl (hts _ (List.mem_cons_of_mem _ kt_w2)) (by decide +kernel) ⟨Nat.le_of_ble_eq_true rfl, Nat.le_of_ble_eq_true rfl⟩, rfl, hts _ (List.mem_cons_of_mem _ kt_w23)⟩ (kq_preS kn_K_st hK) rfl rfl hl.1 rfl (lv_room (Nat.le_of_ble_eq_true rfl)) d_Ke_init_39 ⟨Nat.le_of_ble_eq_true rfl, Nat.le_of_ble_eq_true rfl⟩) (fun v12 H12 L12 hq12 hL12 => ?_)
        obtain ⟨rfl, z12, o12, hs2⟩ := hq12
        refine W.eq (g2 := F0 m 42 ls [.ref (o + 7 + 3 * 2), .int (nI 2), .ref (o + 6)]) rfl ?_
        have hP := kn_keep hP (o12 o (by omega))
        have hlc := t_lL (free := fun q => o ≤ q) hlc (fun q h => Nat.le_trans (by omega) (hL12 q h))
        have kp : ∀ q : Nat, q < o → H12[q]? = H[q]? := fun q hq => (o12 q (by omega)).trans (kp q hq)
        have g1 : H12[o + 1]? = some (kn_R cR 4 4 (fun j => o + 2 + j)) := (o12 _ (by omega)).trans g1
        have g2 : ∀ j : Nat, j < 4 → H12[o + 2 + j]? = some (kq_L cL 8 0) := fun j hj => (o12 _ (by omega)).trans (g2 j hj)
        have hs0 : kn_sp D cL H12 (o + 7 + 3 * 0) := hs0.kept (fun q q1 q2 => o12 q (by omega))
        have hs1 : kn_sp D cL H12 (o + 7 + 3 * 1) := hs1.kept (fun q q1 q2 => o12 q (by omega))
        have g6 : H12[o + 6]? = some (kn_R cS 4 2 (fun j => o + 7 + 3 * j)) := (o12 _ (by omega)).trans g6
        have hz : H12.size = o + 7 + 3 * 2 + 3 := z12
        refine kq_aast hx hb hK tS hS0 (r := (R_Sp, F_Sp, 3)) (ci := 2) rfl g6 hs2.1 (by decide) (by decide) rfl d_Ke_init_42 (fun H13 g6 z13 o13 => ?_)
        have hP := kn_keep hP (o13 o (by omega))
        have hlc := t_lc (free := fun q => o ≤ q) (a := o + 6) (i := 2) hlc (by omega)
        have kp : ∀ q : Nat, q < o → H13[q]? = H[q]? := fun q hq => (o13 q (by omega)).trans (kp q hq)
        have g1 : H13[o + 1]? = some (kn_R cR 4 4 (fun j => o + 2 + j)) := (o13 _ (by omega)).trans g1
        have g2 : ∀ j : Nat, j < 4 → H13[o + 2 + j]? = some (kq_L cL 8 0) := fun j hj => (o13 _ (by omega)).trans (g2 j hj)
        have hs0 : kn_sp D cL H13 (o + 7 + 3 * 0) := hs0.kept (fun q q1 q2 => o13 q (by omega))
        have hs1 : kn_sp D cL H13 (o + 7 + 3 * 1) := hs1.kept (fun q q1 q2 => o13 q (by omega))
        have hs2 : kn_sp D cL H13 (o + 7 + 3 * 2) := hs2.kept (fun q q1 q2 => o13 q (by omega))
        have hz : H13.size = o + 7 + 3 * 2 + 3 := z13.trans hz
        refine lv_iinc (k := 0) (v := nI 3) hx hb d_Ke_init_43 hl rfl (by decide) (by decide) rfl (fun ls hl => ?_)
        have hl : lv_has ls 2 [(1, .int (nI 3)), (0, .ref o)] := hl
        refine lv_goto hx hb d_Ke_init_46 rfl ?_
        refine lv_iload_n hx hb d_Ke_init_25 rfl (lv_at hl 0 rfl) ?_
        refine lv_iconst (v := nI 4) hx hb d_Ke_init_26 (by decide) ?_
        refine lv_icmp_ge hx hb d_Ke_init_27 rfl (fun hc => ?_) (fun hc => ?_)
        · exact absurd hc (by decide)
        · refine lv_aload_n hx hb d_Ke_init_30 rfl (lv_at hl 1 rfl) ?_
          refine kq_get hx hb hts kt_F_Ke hown hK hP rfl 1 (by decide) kt_w137 rfl d_Ke_init_31 ?_
          refine lv_iload_n hx hb d_Ke_init_34 rfl (lv_at hl 0 rfl) ?_
          refine kq_new (h := o + 7 + 3 * 3) (fs := [.null, .null, .int 0]) hx hb hts kt_F_Sp t_Sp t_Sp_ok hown kt_w19 kt_w21 kt_w2 hK (ci := 2) rfl (fun j hj => by rcases (show j = 0 ∨ j = 1 ∨ j = 2 by omega) with rfl | rfl | rfl <;> rfl) (Nat.le_of_ble_eq_true rfl) (Nat.le_of_ble_eq_true rfl) (by omega) d_Ke_init_35 (fun H14 hS z14 o14 => ?_)
          have hP := kn_keep hP (o14 o (by omega))
          have kp : ∀ q : Nat, q < o → H14[q]? = H[q]? := fun q hq => (o14 q (by omega)).trans (kp q hq)
          have g1 : H14[o + 1]? = some (kn_R cR 4 4 (fun j => o + 2 + j)) := (o14 _ (by omega)).trans g1
          have g2 : ∀ j : Nat, j < 4 → H14[o + 2 + j]? = some (kq_L cL 8 0) := fun j hj => (o14 _ (by omega)).trans (g2 j hj)
          have hs0 : kn_sp D cL H14 (o + 7 + 3 * 0) := hs0.kept (fun q q1 q2 => o14 q (by omega))
          have hs1 : kn_sp D cL H14 (o + 7 + 3 * 1) := hs1.kept (fun q q1 q2 => o14 q (by omega))
          have hs2 : kn_sp D cL H14 (o + 7 + 3 * 2) := hs2.kept (fun q q1 q2 => o14 q (by omega))
          have g6 : H14[o + 6]? = some (kn_R cS 4 3 (fun j => o + 7 + 3 * j)) := (o14 _ (by omega)).trans g6
          have hz : H14.size = o + 7 + 3 * 3 + 1 := z14
          refine lv_dup hx hb d_Ke_init_38 rfl ?_
          refine kq_callC (va_runIN (As := []) (rest := [.ref (o + 7 + 3 * 3), .int (nI 3), .ref (o + 6)]) ⟨hx, hb, hml, hown, hts⟩ (c_Sp_init l D tys cL tL hL0 H14 (o + 7 + 3 * 3) hz hS) ⟨va_cnB 0 hts (kt_in kt_w24) rfl rfl rfl hMl (hts _ (List.mem_cons_of_mem _ kt_w2)) (by decide +kernel) ⟨Nat.le_of_ble_eq_true rfl, Nat.le_of_ble_eq_true rfl⟩, rfl, hts _ (List.mem_cons_of_mem _ kt_w23)⟩ (kq_preS kn_K_st hK) rfl rfl hl.1 rfl (lv_room (Nat.le_of_ble_eq_true rfl)) d_Ke_init_39 ⟨Nat.le_of_ble_eq_true rfl, Nat.le_of_ble_eq_true rfl⟩) (fun v15 H15 L15 hq15 hL15 => ?_)
          obtain ⟨rfl, z15, o15, hs3⟩ := hq15
          refine W.eq (g2 := F0 m 42 ls [.ref (o + 7 + 3 * 3), .int (nI 3), .ref (o + 6)]) rfl ?_
          have hP := kn_keep hP (o15 o (by omega))
          have hlc := t_lL (free := fun q => o ≤ q) hlc (fun q h => Nat.le_trans (by omega) (hL15 q h))
          have kp : ∀ q : Nat, q < o → H15[q]? = H[q]? := fun q hq => (o15 q (by omega)).trans (kp q hq)
          have g1 : H15[o + 1]? = some (kn_R cR 4 4 (fun j => o + 2 + j)) := (o15 _ (by omega)).trans g1
          have g2 : ∀ j : Nat, j < 4 → H15[o + 2 + j]? = some (kq_L cL 8 0) := fun j hj => (o15 _ (by omega)).trans (g2 j hj)
          have hs0 : kn_sp D cL H15 (o + 7 + 3 * 0) := hs0.kept (fun q q1 q2 => o15 q (by omega))
          have hs1 : kn_sp D cL H15 (o + 7 + 3 * 1) := hs1.kept (fun q q1 q2 => o15 q (by omega))
          have hs2 : kn_sp D cL H15 (o + 7 + 3 * 2) := hs2.kept (fun q q1 q2 => o15 q (by omega))
          have g6 : H15[o + 6]? = some (kn_R cS 4 3 (fun j => o + 7 + 3 * j)) := (o15 _ (by omega)).trans g6
          have hz : H15.size = o + 7 + 3 * 3 + 3 := z15
          refine kq_aast hx hb hK tS hS0 (r := (R_Sp, F_Sp, 3)) (ci := 2) rfl g6 hs3.1 (by decide) (by decide) rfl d_Ke_init_42 (fun H16 g6 z16 o16 => ?_)
          have hP := kn_keep hP (o16 o (by omega))
          have hlc := t_lc (free := fun q => o ≤ q) (a := o + 6) (i := 3) hlc (by omega)
          have kp : ∀ q : Nat, q < o → H16[q]? = H[q]? := fun q hq => (o16 q (by omega)).trans (kp q hq)
          have g1 : H16[o + 1]? = some (kn_R cR 4 4 (fun j => o + 2 + j)) := (o16 _ (by omega)).trans g1
          have g2 : ∀ j : Nat, j < 4 → H16[o + 2 + j]? = some (kq_L cL 8 0) := fun j hj => (o16 _ (by omega)).trans (g2 j hj)
          have hs0 : kn_sp D cL H16 (o + 7 + 3 * 0) := hs0.kept (fun q q1 q2 => o16 q (by omega))
          have hs1 : kn_sp D cL H16 (o + 7 + 3 * 1) := hs1.kept (fun q q1 q2 => o16 q (by omega))
          have hs2 : kn_sp D cL H16 (o + 7 + 3 * 2) := hs2.kept (fun q q1 q2 => o16 q (by omega))
          have hs3 : kn_sp D cL H16 (o + 7 + 3 * 3) := hs3.kept (fun q q1 q2 => o16 q (by omega))
          have hz : H16.size = o + 7 + 3 * 3 + 3 := z16.trans hz
          refine lv_iinc (k := 0) (v := nI 4) hx hb d_Ke_init_43 hl rfl (by decide) (by decide) rfl (fun ls hl => ?_)
          have hl : lv_has ls 2 [(1, .int (nI 4)), (0, .ref o)] := hl
          refine lv_goto hx hb d_Ke_init_46 rfl ?_
          refine lv_iload_n hx hb d_Ke_init_25 rfl (lv_at hl 0 rfl) ?_
          refine lv_iconst (v := nI 4) hx hb d_Ke_init_26 (by decide) ?_
          refine lv_icmp_ge hx hb d_Ke_init_27 rfl (fun hc => ?_) (fun hc => ?_)
          · have hS : ∀ j, j < 4 → kn_sp D cL H16 (o + 7 + 3 * j) := fun j hj => by
              rcases (show j = 0 ∨ j = 1 ∨ j = 2 ∨ j = 3 by omega) with rfl | rfl | rfl | rfl
              · exact hs0
              · exact hs1
              · exact hs2
              · exact hs3
            have hz : H16.size = o + 19 := hz
            refine lv_aload_n hx hb d_Ke_init_49 rfl (lv_at hl 1 rfl) ?_
            refine kq_new (h := o + 19) (fs := [.null, .null, .int 0, .null, .null, .null, .null, .null, .null]) hx hb hts kt_F_Pr t_Pr t_Pr_ok hown kt_w43 kt_w44 kt_w3 hK (ci := 1) rfl (fun j hj => by rcases (show j = 0 ∨ j = 1 ∨ j = 2 ∨ j = 3 ∨ j = 4 ∨ j = 5 ∨ j = 6 ∨ j = 7 ∨ j = 8 by omega) with rfl | rfl | rfl | rfl | rfl | rfl | rfl | rfl | rfl <;> rfl) (Nat.le_of_ble_eq_true rfl) (Nat.le_of_ble_eq_true rfl) (by omega) d_Ke_init_50 (fun H17 hN z17 o17 => ?_)
            have hP := kn_keep hP (o17 o (by omega))
            have kp : ∀ q : Nat, q < o → H17[q]? = H[q]? := fun q hq => (o17 q (by omega)).trans (kp q hq)
            have g1 : H17[o + 1]? = some (kn_R cR 4 4 (fun j => o + 2 + j)) := (o17 _ (by omega)).trans g1
            have g2 : ∀ j : Nat, j < 4 → H17[o + 2 + j]? = some (kq_L cL 8 0) := fun j hj => (o17 _ (by omega)).trans (g2 j hj)
            have g6 : H17[o + 6]? = some (kn_R cS 4 4 (fun j => o + 7 + 3 * j)) := (o17 _ (by omega)).trans g6
            have hS : ∀ j, j < 4 → kn_sp D cL H17 (o + 7 + 3 * j) := fun j hj => (hS j hj).kept (fun q q1 q2 => o17 q (by omega))
            have hz : H17.size = o + 19 + 1 := z17
            refine lv_dup hx hb d_Ke_init_53 rfl ?_
            refine kq_gets hx hb hts (hZ0.kept (fun a _ hn => kp a (Nat.lt_of_not_le hn))) hown kt_w45 d_Ke_init_54 ?_
            refine kq_gets hx hb hts (hZ1.kept (fun a _ hn => kp a (Nat.lt_of_not_le hn))) hown kt_w47 d_Ke_init_57 ?_
            refine lv_iconst (v := nI 2) hx hb d_Ke_init_60 (by decide) ?_
            refine kq_callC (va_runI (As := [.ref (A 0), .ref (A 6), .int (nI 2)]) (rest := [.ref (o + 19), .ref o]) ⟨hx, hb, hml, hown, hts⟩ (c_Pr_init l D tys cL tL hL0 H17 (o + 19) (A 0) (A 6) 2 kP hz hN (hsP.kept (kp _ hA0)) (by omega) kn_kP) (cwI 3 hts (kt_in kt_w51) rfl rfl rfl (hts _ (List.mem_cons_of_mem _ kt_w3)) (hts _ (List.mem_cons_of_mem _ kt_w49)) (hts _ (List.mem_cons_of_mem _ kt_w50)) rfl (by decide +kernel) ⟨Nat.le_of_ble_eq_true rfl, Nat.le_of_ble_eq_true rfl⟩) (kq_p2S kn_PB_s2 hPB) rfl rfl hl.1 rfl (lv_room (Nat.le_of_ble_eq_true rfl)) d_Ke_init_61 ⟨Nat.le_of_ble_eq_true rfl, Nat.le_of_ble_eq_true rfl⟩) (fun v18 H18 L18 hq18 hL18 => ?_)
            obtain ⟨rfl, z18, o18, hf⟩ := hq18
            refine W.eq (g2 := F0 m 64 ls [.ref (o + 19), .ref o]) rfl ?_
            have hP := kn_keep hP (o18 o (by omega))
            have hlc := t_lL (free := fun q => o ≤ q) hlc (fun q h => Nat.le_trans (by omega) (hL18 q h))
            have kp : ∀ q : Nat, q < o → H18[q]? = H[q]? := fun q hq => (o18 q (by omega)).trans (kp q hq)
            have g1 : H18[o + 1]? = some (kn_R cR 4 4 (fun j => o + 2 + j)) := (o18 _ (by omega)).trans g1
            have g2 : ∀ j : Nat, j < 4 → H18[o + 2 + j]? = some (kq_L cL 8 0) := fun j hj => (o18 _ (by omega)).trans (g2 j hj)
            have g6 : H18[o + 6]? = some (kn_R cS 4 4 (fun j => o + 7 + 3 * j)) := (o18 _ (by omega)).trans g6
            have hS : ∀ j, j < 4 → kn_sp D cL H18 (o + 7 + 3 * j) := fun j hj => (hS j hj).kept (fun q q1 q2 => o18 q (by omega))
            have hz : H18.size = o + 26 := z18
            refine kq_putF hx hb hts kt_F_Ke t_Ke t_Ke_ok n_Ke hown hK hP rfl 2 (by decide) kt_w138 rfl hin rfl (ty := t_Ke 2) (by decide +kernel) rfl rfl (Nat.le_of_ble_eq_true rfl) d_Ke_init_64 (fun H19 L19 hP z19 o19 hL19 => ?_)
            have hz : H19.size = o + 26 := z19.trans hz
            have hP : va_P D kr_cl [(o, .inr (3, [.ref (o + 1), .ref (o + 6), .ref (o + 19), .null, .null]))] H19 := hP
            have kp : ∀ q : Nat, q < o → H19[q]? = H[q]? := fun q hq => (o19 q (by omega)).trans (kp q hq)
            have g1 : H19[o + 1]? = some (kn_R cR 4 4 (fun j => o + 2 + j)) := (o19 _ (by omega)).trans g1
            have g2 : ∀ j : Nat, j < 4 → H19[o + 2 + j]? = some (kq_L cL 8 0) := fun j hj => (o19 _ (by omega)).trans (g2 j hj)
            have g6 : H19[o + 6]? = some (kn_R cS 4 4 (fun j => o + 7 + 3 * j)) := (o19 _ (by omega)).trans g6
            have hS : ∀ j, j < 4 → kn_sp D cL H19 (o + 7 + 3 * j) := fun j hj => (hS j hj).kept (fun q q1 q2 => o19 q (by omega))
            have hf : kn_pr D cL H19 (o + 19) (A 0) (A 6) 2 kP := hf.kept (fun q q1 q2 => o19 q (by omega))
            have hlc := t_lL (free := fun q => o ≤ q) hlc (fun q h => Nat.le_of_eq (hL19 q h).symm)
            refine lv_aload_n hx hb d_Ke_init_67 rfl (lv_at hl 1 rfl) ?_
            refine kq_new (h := o + 26) (fs := [.null, .null, .int 0, .null, .null, .null, .null, .null, .null]) hx hb hts kt_F_Pr t_Pr t_Pr_ok hown kt_w43 kt_w44 kt_w3 hK (ci := 1) rfl (fun j hj => by rcases (show j = 0 ∨ j = 1 ∨ j = 2 ∨ j = 3 ∨ j = 4 ∨ j = 5 ∨ j = 6 ∨ j = 7 ∨ j = 8 by omega) with rfl | rfl | rfl | rfl | rfl | rfl | rfl | rfl | rfl <;> rfl) (Nat.le_of_ble_eq_true rfl) (Nat.le_of_ble_eq_true rfl) (by omega) d_Ke_init_68 (fun H20 hN z20 o20 => ?_)
            have hP := kn_keep hP (o20 o (by omega))
            have kp : ∀ q : Nat, q < o → H20[q]? = H[q]? := fun q hq => (o20 q (by omega)).trans (kp q hq)
            have g1 : H20[o + 1]? = some (kn_R cR 4 4 (fun j => o + 2 + j)) := (o20 _ (by omega)).trans g1
            have g2 : ∀ j : Nat, j < 4 → H20[o + 2 + j]? = some (kq_L cL 8 0) := fun j hj => (o20 _ (by omega)).trans (g2 j hj)
            have g6 : H20[o + 6]? = some (kn_R cS 4 4 (fun j => o + 7 + 3 * j)) := (o20 _ (by omega)).trans g6
            have hS : ∀ j, j < 4 → kn_sp D cL H20 (o + 7 + 3 * j) := fun j hj => (hS j hj).kept (fun q q1 q2 => o20 q (by omega))
            have hf : kn_pr D cL H20 (o + 19) (A 0) (A 6) 2 kP := hf.kept (fun q q1 q2 => o20 q (by omega))
            have hz : H20.size = o + 26 + 1 := z20
            refine lv_dup hx hb d_Ke_init_71 rfl ?_
            refine kq_gets hx hb hts (hZ2.kept (fun a _ hn => kp a (Nat.lt_of_not_le hn))) hown kt_w89 d_Ke_init_72 ?_
            refine kq_gets hx hb hts (hZ3.kept (fun a _ hn => kp a (Nat.lt_of_not_le hn))) hown kt_w91 d_Ke_init_75 ?_
            refine lv_iconst (v := nI 5) hx hb d_Ke_init_78 (by decide) ?_
            refine kq_callC (va_runI (As := [.ref (A 7), .ref (A 8), .int (nI 5)]) (rest := [.ref (o + 26), .ref o]) ⟨hx, hb, hml, hown, hts⟩ (c_Pr_init l D tys cL tL hL0 H20 (o + 26) (A 7) (A 8) 5 kN hz hN (hsN.kept (kp _ hA7)) (by omega) kn_kN) (cwI 3 hts (kt_in kt_w51) rfl rfl rfl (hts _ (List.mem_cons_of_mem _ kt_w3)) (hts _ (List.mem_cons_of_mem _ kt_w49)) (hts _ (List.mem_cons_of_mem _ kt_w50)) rfl (by decide +kernel) ⟨Nat.le_of_ble_eq_true rfl, Nat.le_of_ble_eq_true rfl⟩) (kq_p2S kn_PB_s2 hPB) rfl rfl hl.1 rfl (lv_room (Nat.le_of_ble_eq_true rfl)) d_Ke_init_79 ⟨Nat.le_of_ble_eq_true rfl, Nat.le_of_ble_eq_true rfl⟩) (fun v21 H21 L21 hq21 hL21 => ?_)
            obtain ⟨rfl, z21, o21, ho⟩ := hq21
            refine W.eq (g2 := F0 m 82 ls [.ref (o + 26), .ref o]) rfl ?_
            have hP := kn_keep hP (o21 o (by omega))
            have hlc := t_lL (free := fun q => o ≤ q) hlc (fun q h => Nat.le_trans (by omega) (hL21 q h))
            have kp : ∀ q : Nat, q < o → H21[q]? = H[q]? := fun q hq => (o21 q (by omega)).trans (kp q hq)
            have g1 : H21[o + 1]? = some (kn_R cR 4 4 (fun j => o + 2 + j)) := (o21 _ (by omega)).trans g1
            have g2 : ∀ j : Nat, j < 4 → H21[o + 2 + j]? = some (kq_L cL 8 0) := fun j hj => (o21 _ (by omega)).trans (g2 j hj)
            have g6 : H21[o + 6]? = some (kn_R cS 4 4 (fun j => o + 7 + 3 * j)) := (o21 _ (by omega)).trans g6
            have hS : ∀ j, j < 4 → kn_sp D cL H21 (o + 7 + 3 * j) := fun j hj => (hS j hj).kept (fun q q1 q2 => o21 q (by omega))
            have hf : kn_pr D cL H21 (o + 19) (A 0) (A 6) 2 kP := hf.kept (fun q q1 q2 => o21 q (by omega))
            have hz : H21.size = o + 33 := z21
            refine kq_putF hx hb hts kt_F_Ke t_Ke t_Ke_ok n_Ke hown hK hP rfl 3 (by decide) kt_w139 rfl hin rfl (ty := t_Ke 3) (by decide +kernel) rfl rfl (Nat.le_of_ble_eq_true rfl) d_Ke_init_82 (fun H22 L22 hP z22 o22 hL22 => ?_)
            have hz : H22.size = o + 33 := z22.trans hz
            have hP : va_P D kr_cl [(o, .inr (3, [.ref (o + 1), .ref (o + 6), .ref (o + 19), .ref (o + 26), .null]))] H22 := hP
            have kp : ∀ q : Nat, q < o → H22[q]? = H[q]? := fun q hq => (o22 q (by omega)).trans (kp q hq)
            have g1 : H22[o + 1]? = some (kn_R cR 4 4 (fun j => o + 2 + j)) := (o22 _ (by omega)).trans g1
            have g2 : ∀ j : Nat, j < 4 → H22[o + 2 + j]? = some (kq_L cL 8 0) := fun j hj => (o22 _ (by omega)).trans (g2 j hj)
            have g6 : H22[o + 6]? = some (kn_R cS 4 4 (fun j => o + 7 + 3 * j)) := (o22 _ (by omega)).trans g6
            have hS : ∀ j, j < 4 → kn_sp D cL H22 (o + 7 + 3 * j) := fun j hj => (hS j hj).kept (fun q q1 q2 => o22 q (by omega))
            have hf : kn_pr D cL H22 (o + 19) (A 0) (A 6) 2 kP := hf.kept (fun q q1 q2 => o22 q (by omega))
            have ho : kn_pr D cL H22 (o + 26) (A 7) (A 8) 5 kN := ho.kept (fun q q1 q2 => o22 q (by omega))
            have hlc := t_lL (free := fun q => o ≤ q) hlc (fun q h => Nat.le_of_eq (hL22 q h).symm)
            refine lv_aload_n hx hb d_Ke_init_85 rfl (lv_at hl 1 rfl) ?_
            refine kq_new (h := o + 33) (fs := [.null, .null, .null, .null, .null, .null, .null, .null, .null, .null, .null, .null]) hx hb hts kt_F_Cu t_Cu t_Cu_ok hown kt_w93 kt_w94 kt_w4 hK (ci := 0) rfl (fun j hj => by rcases (show j = 0 ∨ j = 1 ∨ j = 2 ∨ j = 3 ∨ j = 4 ∨ j = 5 ∨ j = 6 ∨ j = 7 ∨ j = 8 ∨ j = 9 ∨ j = 10 ∨ j = 11 by omega) with rfl | rfl | rfl | rfl | rfl | rfl | rfl | rfl | rfl | rfl | rfl | rfl <;> rfl) (Nat.le_of_ble_eq_true rfl) (Nat.le_of_ble_eq_true rfl) (by omega) d_Ke_init_86 (fun H23 hN z23 o23 => ?_)
            have hP := kn_keep hP (o23 o (by omega))
            have kp : ∀ q : Nat, q < o → H23[q]? = H[q]? := fun q hq => (o23 q (by omega)).trans (kp q hq)
            have g1 : H23[o + 1]? = some (kn_R cR 4 4 (fun j => o + 2 + j)) := (o23 _ (by omega)).trans g1
            have g2 : ∀ j : Nat, j < 4 → H23[o + 2 + j]? = some (kq_L cL 8 0) := fun j hj => (o23 _ (by omega)).trans (g2 j hj)
            have g6 : H23[o + 6]? = some (kn_R cS 4 4 (fun j => o + 7 + 3 * j)) := (o23 _ (by omega)).trans g6
            have hS : ∀ j, j < 4 → kn_sp D cL H23 (o + 7 + 3 * j) := fun j hj => (hS j hj).kept (fun q q1 q2 => o23 q (by omega))
            have hf : kn_pr D cL H23 (o + 19) (A 0) (A 6) 2 kP := hf.kept (fun q q1 q2 => o23 q (by omega))
            have ho : kn_pr D cL H23 (o + 26) (A 7) (A 8) 5 kN := ho.kept (fun q q1 q2 => o23 q (by omega))
            have hz : H23.size = o + 33 + 1 := z23
            refine lv_dup hx hb d_Ke_init_89 rfl ?_
            refine lv_aload_n hx hb d_Ke_init_90 rfl (lv_at hl 1 rfl) ?_
            refine kq_get hx hb hts kt_F_Ke hown hK hP rfl 2 (by decide) kt_w138 rfl d_Ke_init_91 ?_
            refine kq_callC (va_runI (As := [.ref (o + 19)]) (rest := [.ref (o + 33), .ref o]) ⟨hx, hb, hml, hown, hts⟩ (c_Cu_init l D tys cL tL hL0 H23 (o + 33) (o + 19) hz hN) (cwI 1 hts (kt_in kt_w97) rfl rfl rfl (hts _ (List.mem_cons_of_mem _ kt_w4)) (hts _ (List.mem_cons_of_mem _ kt_w95)) (hts _ (List.mem_cons_of_mem _ kt_w96)) rfl (by decide +kernel) ⟨Nat.le_of_ble_eq_true rfl, Nat.le_of_ble_eq_true rfl⟩) (kq_preS kn_K_st hK) rfl rfl hl.1 rfl (lv_room (Nat.le_of_ble_eq_true rfl)) d_Ke_init_94 ⟨Nat.le_of_ble_eq_true rfl, Nat.le_of_ble_eq_true rfl⟩) (fun v24 H24 L24 hq24 hL24 => ?_)
            obtain ⟨rfl, z24, o24, hu⟩ := hq24
            refine W.eq (g2 := F0 m 97 ls [.ref (o + 33), .ref o]) rfl ?_
            have hP := kn_keep hP (o24 o (by omega))
            have hlc := t_lL (free := fun q => o ≤ q) hlc (fun q h => Nat.le_trans (by omega) (hL24 q h))
            have kp : ∀ q : Nat, q < o → H24[q]? = H[q]? := fun q hq => (o24 q (by omega)).trans (kp q hq)
            have g1 : H24[o + 1]? = some (kn_R cR 4 4 (fun j => o + 2 + j)) := (o24 _ (by omega)).trans g1
            have g2 : ∀ j : Nat, j < 4 → H24[o + 2 + j]? = some (kq_L cL 8 0) := fun j hj => (o24 _ (by omega)).trans (g2 j hj)
            have g6 : H24[o + 6]? = some (kn_R cS 4 4 (fun j => o + 7 + 3 * j)) := (o24 _ (by omega)).trans g6
            have hS : ∀ j, j < 4 → kn_sp D cL H24 (o + 7 + 3 * j) := fun j hj => (hS j hj).kept (fun q q1 q2 => o24 q (by omega))
            have hf : kn_pr D cL H24 (o + 19) (A 0) (A 6) 2 kP := hf.kept (fun q q1 q2 => o24 q (by omega))
            have ho : kn_pr D cL H24 (o + 26) (A 7) (A 8) 5 kN := ho.kept (fun q q1 q2 => o24 q (by omega))
            have hz : H24.size = o + 45 := z24
            refine kq_putF hx hb hts kt_F_Ke t_Ke t_Ke_ok n_Ke hown hK hP rfl 4 (by decide) kt_w140 rfl hin rfl (ty := t_Ke 4) (by decide +kernel) rfl rfl (Nat.le_of_ble_eq_true rfl) d_Ke_init_97 (fun H25 L25 hP z25 o25 hL25 => ?_)
            have hz : H25.size = o + 45 := z25.trans hz
            have hP : va_P D kr_cl [(o, .inr (3, [.ref (o + 1), .ref (o + 6), .ref (o + 19), .ref (o + 26), .ref (o + 33)]))] H25 := hP
            have kp : ∀ q : Nat, q < o → H25[q]? = H[q]? := fun q hq => (o25 q (by omega)).trans (kp q hq)
            have g1 : H25[o + 1]? = some (kn_R cR 4 4 (fun j => o + 2 + j)) := (o25 _ (by omega)).trans g1
            have g2 : ∀ j : Nat, j < 4 → H25[o + 2 + j]? = some (kq_L cL 8 0) := fun j hj => (o25 _ (by omega)).trans (g2 j hj)
            have g6 : H25[o + 6]? = some (kn_R cS 4 4 (fun j => o + 7 + 3 * j)) := (o25 _ (by omega)).trans g6
            have hS : ∀ j, j < 4 → kn_sp D cL H25 (o + 7 + 3 * j) := fun j hj => (hS j hj).kept (fun q q1 q2 => o25 q (by omega))
            have hf : kn_pr D cL H25 (o + 19) (A 0) (A 6) 2 kP := hf.kept (fun q q1 q2 => o25 q (by omega))
            have ho : kn_pr D cL H25 (o + 26) (A 7) (A 8) 5 kN := ho.kept (fun q q1 q2 => o25 q (by omega))
            have hu : kn_cu D cL H25 (o + 33) (o + 19) := hu.kept (fun q q1 q2 => o25 q (by omega))
            have hlc := t_lL (free := fun q => o ≤ q) hlc (fun q h => Nat.le_of_eq (hL25 q h).symm)
            exact W.vret hx hb hret (fun t ht _ => ⟨_, rfl, rfl, by rw [ht]; exact hz, fun q hq => by rw [ht]; exact kp q hq, by rw [ht]; exact ⟨hP, g1, g2, g6, hS, hf, ho, hu⟩⟩) hlc d_Ke_init_100
          · exact absurd (by decide) hc
