/-! The constructor of Prime (own rows). -/
theorem kt_w54 : (Jvm.Cond.sameMethod "[J" "java/lang/Object" "clone" "()Ljava/lang/Object;") ∈ kt_all := kt_mem (i := 76) (by decide +kernel) (by decide +kernel)
theorem kt_w55 : (Jvm.Cond.native ({ cls := "java/lang/Object", name := "clone", desc := "()Ljava/lang/Object;" } : Jvm.MethodName)) ∈ kt_all := kt_mem (i := 77) (by decide +kernel) (by decide +kernel)
def kn_pr (D : va_G) (cL : ClassId) (H : Heap) (h pa ga gw mm : Nat) : Prop := va_P D kr_cl [(h, .inr (1, [.ref pa, .ref ga, .int (nI gw), .ref (h + 6), .ref (h + 1), .ref (h + 2), .ref (h + 3), .ref (h + 4), .ref (h + 5)]))] H ∧ H[h + 1]? = some (kq_L cL 16 0) ∧ (∀ k, 2 ≤ k → k ≤ 5 → H[h + k]? = some (kq_L cL 8 0)) ∧ H[h + 6]? = some (kq_L cL 8 (mm - 2))
theorem kn_pr.kept {D : va_G} {cL : ClassId} {H H1 : Heap} {h pa ga gw mm : Nat} (g : kn_pr D cL H h pa ga gw mm) (e : ∀ q : Nat, h ≤ q → q < h + 7 → H1[q]? = H[q]?) : kn_pr D cL H1 h pa ga gw mm :=
  ⟨kn_keep g.1 (e _ (by omega) (by omega)), (e _ (by omega) (by omega)).trans g.2.1, fun k k1 k2 => (e _ (by omega) (by omega)).trans (g.2.2.1 k k1 k2), (e _ (by omega) (by omega)).trans g.2.2.2⟩
def kn_PB (D : va_G) (tys : List (ClassId × FieldType)) (U : State) : Prop := va_K D kr_cl tys U ∧ va_Nw (.castable "[J" "java/lang/Cloneable") U
theorem kn_PB_s2 {D : va_G} {tys : List (ClassId × FieldType)} : kq_s2 (kn_PB D tys) := fun u U hv q => ⟨va_K.moved (kq_al hv) q.1, hv.elim (fun e => va_Nw.same rfl e q.2) (fun w => va_Nw.warmC w q.2)⟩
theorem d_Pr_init_0 : decode b_Pr_init 0 = .ok (.aload_n 0, 1) := by decide +kernel
theorem d_Pr_init_1 : decode b_Pr_init 1 = .ok (.invokespecial 3, 3) := by decide +kernel
theorem d_Pr_init_4 : decode b_Pr_init 4 = .ok (.aload_n 0, 1) := by decide +kernel
theorem d_Pr_init_5 : decode b_Pr_init 5 = .ok (.bipush 16, 2) := by decide +kernel
theorem d_Pr_init_7 : decode b_Pr_init 7 = .ok (.newarray .long, 2) := by decide +kernel
theorem d_Pr_init_9 : decode b_Pr_init 9 = .ok (.putfield 9, 3) := by decide +kernel
theorem d_Pr_init_12 : decode b_Pr_init 12 = .ok (.aload_n 0, 1) := by decide +kernel
theorem d_Pr_init_13 : decode b_Pr_init 13 = .ok (.bipush 8, 2) := by decide +kernel
theorem d_Pr_init_15 : decode b_Pr_init 15 = .ok (.newarray .long, 2) := by decide +kernel
theorem d_Pr_init_17 : decode b_Pr_init 17 = .ok (.putfield 15, 3) := by decide +kernel
theorem d_Pr_init_20 : decode b_Pr_init 20 = .ok (.aload_n 0, 1) := by decide +kernel
theorem d_Pr_init_21 : decode b_Pr_init 21 = .ok (.bipush 8, 2) := by decide +kernel
theorem d_Pr_init_23 : decode b_Pr_init 23 = .ok (.newarray .long, 2) := by decide +kernel
theorem d_Pr_init_25 : decode b_Pr_init 25 = .ok (.putfield 18, 3) := by decide +kernel
theorem d_Pr_init_28 : decode b_Pr_init 28 = .ok (.aload_n 0, 1) := by decide +kernel
theorem d_Pr_init_29 : decode b_Pr_init 29 = .ok (.bipush 8, 2) := by decide +kernel
theorem d_Pr_init_31 : decode b_Pr_init 31 = .ok (.newarray .long, 2) := by decide +kernel
theorem d_Pr_init_33 : decode b_Pr_init 33 = .ok (.putfield 21, 3) := by decide +kernel
theorem d_Pr_init_36 : decode b_Pr_init 36 = .ok (.aload_n 0, 1) := by decide +kernel
theorem d_Pr_init_37 : decode b_Pr_init 37 = .ok (.bipush 8, 2) := by decide +kernel
theorem d_Pr_init_39 : decode b_Pr_init 39 = .ok (.newarray .long, 2) := by decide +kernel
theorem d_Pr_init_41 : decode b_Pr_init 41 = .ok (.putfield 24, 3) := by decide +kernel
theorem d_Pr_init_44 : decode b_Pr_init 44 = .ok (.aload_n 0, 1) := by decide +kernel
theorem d_Pr_init_45 : decode b_Pr_init 45 = .ok (.aload_n 1, 1) := by decide +kernel
theorem d_Pr_init_46 : decode b_Pr_init 46 = .ok (.putfield 27, 3) := by decide +kernel
theorem d_Pr_init_49 : decode b_Pr_init 49 = .ok (.aload_n 0, 1) := by decide +kernel
theorem d_Pr_init_50 : decode b_Pr_init 50 = .ok (.aload_n 2, 1) := by decide +kernel
theorem d_Pr_init_51 : decode b_Pr_init 51 = .ok (.putfield 30, 3) := by decide +kernel
theorem d_Pr_init_54 : decode b_Pr_init 54 = .ok (.aload_n 0, 1) := by decide +kernel
theorem d_Pr_init_55 : decode b_Pr_init 55 = .ok (.iload_n 3, 1) := by decide +kernel
theorem d_Pr_init_56 : decode b_Pr_init 56 = .ok (.putfield 33, 3) := by decide +kernel
theorem d_Pr_init_59 : decode b_Pr_init 59 = .ok (.aload_n 0, 1) := by decide +kernel
theorem d_Pr_init_60 : decode b_Pr_init 60 = .ok (.aload_n 1, 1) := by decide +kernel
theorem d_Pr_init_61 : decode b_Pr_init 61 = .ok (.invokevirtual 37, 3) := by decide +kernel
theorem d_Pr_init_64 : decode b_Pr_init 64 = .ok (.checkcast 38, 3) := by decide +kernel
theorem d_Pr_init_67 : decode b_Pr_init 67 = .ok (.putfield 42, 3) := by decide +kernel
theorem d_Pr_init_70 : decode b_Pr_init 70 = .ok (.aload_n 0, 1) := by decide +kernel
theorem d_Pr_init_71 : decode b_Pr_init 71 = .ok (.getfield 42, 3) := by decide +kernel
theorem d_Pr_init_74 : decode b_Pr_init 74 = .ok (.iconst 0, 1) := by decide +kernel
theorem d_Pr_init_75 : decode b_Pr_init 75 = .ok (.dup2, 1) := by decide +kernel
theorem d_Pr_init_76 : decode b_Pr_init 76 = .ok (.laload, 1) := by decide +kernel
theorem d_Pr_init_77 : decode b_Pr_init 77 = .ok (.ldc2_w 45, 3) := by decide +kernel
theorem d_Pr_init_80 : decode b_Pr_init 80 = .ok (.lsub, 1) := by decide +kernel
theorem d_Pr_init_81 : decode b_Pr_init 81 = .ok (.lastore, 1) := by decide +kernel
theorem d_Pr_init_82 : decode b_Pr_init 82 = .ok (.return_, 1) := by decide +kernel
set_option maxHeartbeats 4000000 in
set_option maxRecDepth 100000 in
theorem c_Pr_init (l : Launch) (D : va_G) (tys : List (ClassId × FieldType)) (cL : ClassId) (tL : Nat) (hL0 : tys[tL]? = some (cL, .long)) (H : Heap) (o pa ga gw mm : Nat) (hz : H.size = o + 1) (hP : va_P D kr_cl [(o, .inr (1, [.null, .null, .int 0, .null, .null, .null, .null, .null, .null]))] H) (hs : kn_src H cL pa mm) (hpa : pa < o) (h2 : 2 ≤ kw_d mm 0) : Met l y_Pr_init w_Pr_init ({ frames := 1, cells := 6, slots := 56, locals := 15 }) (kq_P [.ref o, .ref pa, .ref ga, .int (nI gw)] H (kn_PB D tys)) (kq_Q (fun o1 H1 => o1 = none ∧ H1.size = o + 7 ∧ (∀ q : Nat, q < o → H1[q]? = H[q]?) ∧ kn_pr D cL H1 o pa ga gw mm)) 6 56 (fun q => o ≤ q) := by
  refine Met.ofW (cc := b_Pr_init) (maxL := 4) (ret := none) (by decide) rfl ?_
  intro p e s m args below meth c s₁ B0 hml hv
  obtain ⟨rfl, hH, hK, hCa⟩ := hv
  have hx := B0.exec
  have hb := B0.bytes
  have hret := B0.returns
  have hts := atoms_spec (ws := w_Pr_init) B0.pre
  have hown : s.vm.findClass R_Pr = some m.cls := findClass_of_methodNamed B0.named
  have hlocks := B0.notSynchronized
  rw [hH]
  have hl := lv_entry ([.ref o, .ref pa, .ref ga, .int (nI gw)]) (n := 4) (Nat.le_of_ble_eq_true rfl)
  rw [lg_entry_eq]
  generalize (lg_sl ([.ref o, .ref pa, .ref ga, .int (nI gw)]) ++ List.replicate (4 - (lg_sl ([.ref o, .ref pa, .ref ga, .int (nI gw)])).length) Slot.unset).toArray = ls at hl ⊢
  have hl : lv_has ls 4 [(0, .ref o), (1, .ref pa), (2, .ref ga), (3, .int (nI gw))] := hl
  have hcL : s.vm.findClass ("[" ++ FieldType.long.toString) = some cL := (hK.2 tL _ hL0).2
  have hT : ArrOfT s cL .long := (hK.2 tL _ hL0).1
  have hin : meth.name = "<init>" := (name_of_methodNamed B0.named B0.method).1
  have hlc : ∀ q ∈ ([] : List Loc), o ≤ q.base := fun q h => by cases h
  have kp : ∀ q : Nat, q < o → H[q]? = H[q]? := fun _ _ => rfl
  have hC := kn_C.nil H o
  refine lv_aload_n hx hb d_Pr_init_0 rfl (lv_at hl 0 rfl) ?_
  refine kq_obj hx hb (by rw [hml]; exact hl.1.symm) hts hown kt_w52 (Nat.le_of_ble_eq_true rfl) (Nat.le_of_ble_eq_true rfl) d_Pr_init_1 ?_
  refine lv_aload_n hx hb d_Pr_init_4 rfl (lv_at hl 0 rfl) ?_
  refine lv_bipush (v := nI 16) hx hb d_Pr_init_5 (by decide) ?_
  refine kq_newa (atype := .long) (ty := .long) (h := o + 1) hx hb (hts _ (List.mem_cons_of_mem _ kt_w42)) rfl hcL (nI_pos (by decide)) (nI_clamp (by decide)) (by decide) (Nat.le_of_ble_eq_true rfl) (Nat.le_of_ble_eq_true rfl) hz d_Pr_init_7 (fun H1 e1 z1 o1 => ?_)
  rw [kn_L0] at e1
  have hC := hC.push (H1 := H1) (x := kq_L cL 16 0) hz (by rw [hz]; exact e1) (by rw [hz]; exact o1)
  have hz : H1.size = o + 2 := z1
  have hP := kn_keep hP (o1 o (by omega))
  have kp : ∀ q : Nat, q < o → H1[q]? = H[q]? := fun q hq => (o1 q (by omega)).trans (kp q hq)
  have hP : va_P D kr_cl [(o, .inr (1, [.null, .null, .int 0, .null, .null, .null, .null, .null, .null]))] H1 := hP
  refine kq_putF hx hb hts kt_F_Pr t_Pr t_Pr_ok n_Pr hown hK hP rfl 4 (by decide) kt_w65 rfl hin rfl (ty := t_Pr 4) (by decide +kernel) rfl rfl (Nat.le_of_ble_eq_true rfl) d_Pr_init_9 (fun H2 L2 hP z2 o2 hL2 => ?_)
  have hC := hC.put o2
  have hz : H2.size = o + 2 := z2.trans hz
  have kp : ∀ q : Nat, q < o → H2[q]? = H[q]? := fun q hq => (o2 q (by omega)).trans (kp q hq)
  have hlc := t_lL (free := fun q => o ≤ q) hlc (fun q h => Nat.le_of_eq (hL2 q h).symm)
  have hP : va_P D kr_cl [(o, .inr (1, [.null, .null, .int 0, .null, .ref (o + 1), .null, .null, .null, .null]))] H2 := hP
  refine lv_aload_n hx hb d_Pr_init_12 rfl (lv_at hl 0 rfl) ?_
  refine lv_bipush (v := nI 8) hx hb d_Pr_init_13 (by decide) ?_
  refine kq_newa (atype := .long) (ty := .long) (h := o + 2) hx hb (hts _ (List.mem_cons_of_mem _ kt_w42)) rfl hcL (nI_pos (by decide)) (nI_clamp (by decide)) (by decide) (Nat.le_of_ble_eq_true rfl) (Nat.le_of_ble_eq_true rfl) hz d_Pr_init_15 (fun H3 e3 z3 o3 => ?_)
  rw [kn_L0] at e3
  have hC := hC.push (H1 := H3) (x := kq_L cL 8 0) hz (by rw [hz]; exact e3) (by rw [hz]; exact o3)
  have hz : H3.size = o + 3 := z3
  have hP := kn_keep hP (o3 o (by omega))
  have kp : ∀ q : Nat, q < o → H3[q]? = H[q]? := fun q hq => (o3 q (by omega)).trans (kp q hq)
  have hP : va_P D kr_cl [(o, .inr (1, [.null, .null, .int 0, .null, .ref (o + 1), .null, .null, .null, .null]))] H3 := hP
  refine kq_putF hx hb hts kt_F_Pr t_Pr t_Pr_ok n_Pr hown hK hP rfl 5 (by decide) kt_w66 rfl hin rfl (ty := t_Pr 5) (by decide +kernel) rfl rfl (Nat.le_of_ble_eq_true rfl) d_Pr_init_17 (fun H4 L4 hP z4 o4 hL4 => ?_)
  have hC := hC.put o4
  have hz : H4.size = o + 3 := z4.trans hz
  have kp : ∀ q : Nat, q < o → H4[q]? = H[q]? := fun q hq => (o4 q (by omega)).trans (kp q hq)
  have hlc := t_lL (free := fun q => o ≤ q) hlc (fun q h => Nat.le_of_eq (hL4 q h).symm)
  have hP : va_P D kr_cl [(o, .inr (1, [.null, .null, .int 0, .null, .ref (o + 1), .ref (o + 2), .null, .null, .null]))] H4 := hP
  refine lv_aload_n hx hb d_Pr_init_20 rfl (lv_at hl 0 rfl) ?_
  refine lv_bipush (v := nI 8) hx hb d_Pr_init_21 (by decide) ?_
  refine kq_newa (atype := .long) (ty := .long) (h := o + 3) hx hb (hts _ (List.mem_cons_of_mem _ kt_w42)) rfl hcL (nI_pos (by decide)) (nI_clamp (by decide)) (by decide) (Nat.le_of_ble_eq_true rfl) (Nat.le_of_ble_eq_true rfl) hz d_Pr_init_23 (fun H5 e5 z5 o5 => ?_)
  rw [kn_L0] at e5
  have hC := hC.push (H1 := H5) (x := kq_L cL 8 0) hz (by rw [hz]; exact e5) (by rw [hz]; exact o5)
  have hz : H5.size = o + 4 := z5
  have hP := kn_keep hP (o5 o (by omega))
  have kp : ∀ q : Nat, q < o → H5[q]? = H[q]? := fun q hq => (o5 q (by omega)).trans (kp q hq)
  have hP : va_P D kr_cl [(o, .inr (1, [.null, .null, .int 0, .null, .ref (o + 1), .ref (o + 2), .null, .null, .null]))] H5 := hP
  refine kq_putF hx hb hts kt_F_Pr t_Pr t_Pr_ok n_Pr hown hK hP rfl 6 (by decide) kt_w67 rfl hin rfl (ty := t_Pr 6) (by decide +kernel) rfl rfl (Nat.le_of_ble_eq_true rfl) d_Pr_init_25 (fun H6 L6 hP z6 o6 hL6 => ?_)
  have hC := hC.put o6
  have hz : H6.size = o + 4 := z6.trans hz
  have kp : ∀ q : Nat, q < o → H6[q]? = H[q]? := fun q hq => (o6 q (by omega)).trans (kp q hq)
  have hlc := t_lL (free := fun q => o ≤ q) hlc (fun q h => Nat.le_of_eq (hL6 q h).symm)
  have hP : va_P D kr_cl [(o, .inr (1, [.null, .null, .int 0, .null, .ref (o + 1), .ref (o + 2), .ref (o + 3), .null, .null]))] H6 := hP
  refine lv_aload_n hx hb d_Pr_init_28 rfl (lv_at hl 0 rfl) ?_
  refine lv_bipush (v := nI 8) hx hb d_Pr_init_29 (by decide) ?_
  refine kq_newa (atype := .long) (ty := .long) (h := o + 4) hx hb (hts _ (List.mem_cons_of_mem _ kt_w42)) rfl hcL (nI_pos (by decide)) (nI_clamp (by decide)) (by decide) (Nat.le_of_ble_eq_true rfl) (Nat.le_of_ble_eq_true rfl) hz d_Pr_init_31 (fun H7 e7 z7 o7 => ?_)
  rw [kn_L0] at e7
  have hC := hC.push (H1 := H7) (x := kq_L cL 8 0) hz (by rw [hz]; exact e7) (by rw [hz]; exact o7)
  have hz : H7.size = o + 5 := z7
  have hP := kn_keep hP (o7 o (by omega))
  have kp : ∀ q : Nat, q < o → H7[q]? = H[q]? := fun q hq => (o7 q (by omega)).trans (kp q hq)
  have hP : va_P D kr_cl [(o, .inr (1, [.null, .null, .int 0, .null, .ref (o + 1), .ref (o + 2), .ref (o + 3), .null, .null]))] H7 := hP
  refine kq_putF hx hb hts kt_F_Pr t_Pr t_Pr_ok n_Pr hown hK hP rfl 7 (by decide) kt_w68 rfl hin rfl (ty := t_Pr 7) (by decide +kernel) rfl rfl (Nat.le_of_ble_eq_true rfl) d_Pr_init_33 (fun H8 L8 hP z8 o8 hL8 => ?_)
  have hC := hC.put o8
  have hz : H8.size = o + 5 := z8.trans hz
  have kp : ∀ q : Nat, q < o → H8[q]? = H[q]? := fun q hq => (o8 q (by omega)).trans (kp q hq)
  have hlc := t_lL (free := fun q => o ≤ q) hlc (fun q h => Nat.le_of_eq (hL8 q h).symm)
  have hP : va_P D kr_cl [(o, .inr (1, [.null, .null, .int 0, .null, .ref (o + 1), .ref (o + 2), .ref (o + 3), .ref (o + 4), .null]))] H8 := hP
  refine lv_aload_n hx hb d_Pr_init_36 rfl (lv_at hl 0 rfl) ?_
  refine lv_bipush (v := nI 8) hx hb d_Pr_init_37 (by decide) ?_
  refine kq_newa (atype := .long) (ty := .long) (h := o + 5) hx hb (hts _ (List.mem_cons_of_mem _ kt_w42)) rfl hcL (nI_pos (by decide)) (nI_clamp (by decide)) (by decide) (Nat.le_of_ble_eq_true rfl) (Nat.le_of_ble_eq_true rfl) hz d_Pr_init_39 (fun H9 e9 z9 o9 => ?_)
  rw [kn_L0] at e9
  have hC := hC.push (H1 := H9) (x := kq_L cL 8 0) hz (by rw [hz]; exact e9) (by rw [hz]; exact o9)
  have hz : H9.size = o + 6 := z9
  have hP := kn_keep hP (o9 o (by omega))
  have kp : ∀ q : Nat, q < o → H9[q]? = H[q]? := fun q hq => (o9 q (by omega)).trans (kp q hq)
  have hP : va_P D kr_cl [(o, .inr (1, [.null, .null, .int 0, .null, .ref (o + 1), .ref (o + 2), .ref (o + 3), .ref (o + 4), .null]))] H9 := hP
  refine kq_putF hx hb hts kt_F_Pr t_Pr t_Pr_ok n_Pr hown hK hP rfl 8 (by decide) kt_w69 rfl hin rfl (ty := t_Pr 8) (by decide +kernel) rfl rfl (Nat.le_of_ble_eq_true rfl) d_Pr_init_41 (fun H10 L10 hP z10 o10 hL10 => ?_)
  have hC := hC.put o10
  have hz : H10.size = o + 6 := z10.trans hz
  have kp : ∀ q : Nat, q < o → H10[q]? = H[q]? := fun q hq => (o10 q (by omega)).trans (kp q hq)
  have hlc := t_lL (free := fun q => o ≤ q) hlc (fun q h => Nat.le_of_eq (hL10 q h).symm)
  have hP : va_P D kr_cl [(o, .inr (1, [.null, .null, .int 0, .null, .ref (o + 1), .ref (o + 2), .ref (o + 3), .ref (o + 4), .ref (o + 5)]))] H10 := hP
  refine lv_aload_n hx hb d_Pr_init_44 rfl (lv_at hl 0 rfl) ?_
  refine lv_aload_n hx hb d_Pr_init_45 rfl (lv_at hl 1 rfl) ?_
  refine kq_putF hx hb hts kt_F_Pr t_Pr t_Pr_ok n_Pr hown hK hP rfl 0 (by decide) kt_w61 rfl hin rfl (ty := t_Pr 0) (by decide +kernel) rfl rfl (Nat.le_of_ble_eq_true rfl) d_Pr_init_46 (fun H11 L11 hP z11 o11 hL11 => ?_)
  have hC := hC.put o11
  have hz : H11.size = o + 6 := z11.trans hz
  have kp : ∀ q : Nat, q < o → H11[q]? = H[q]? := fun q hq => (o11 q (by omega)).trans (kp q hq)
  have hlc := t_lL (free := fun q => o ≤ q) hlc (fun q h => Nat.le_of_eq (hL11 q h).symm)
  have hP : va_P D kr_cl [(o, .inr (1, [.ref pa, .null, .int 0, .null, .ref (o + 1), .ref (o + 2), .ref (o + 3), .ref (o + 4), .ref (o + 5)]))] H11 := hP
  refine lv_aload_n hx hb d_Pr_init_49 rfl (lv_at hl 0 rfl) ?_
  refine lv_aload_n hx hb d_Pr_init_50 rfl (lv_at hl 2 rfl) ?_
  refine kq_putF hx hb hts kt_F_Pr t_Pr t_Pr_ok n_Pr hown hK hP rfl 1 (by decide) kt_w62 rfl hin rfl (ty := t_Pr 1) (by decide +kernel) rfl rfl (Nat.le_of_ble_eq_true rfl) d_Pr_init_51 (fun H12 L12 hP z12 o12 hL12 => ?_)
  have hC := hC.put o12
  have hz : H12.size = o + 6 := z12.trans hz
  have kp : ∀ q : Nat, q < o → H12[q]? = H[q]? := fun q hq => (o12 q (by omega)).trans (kp q hq)
  have hlc := t_lL (free := fun q => o ≤ q) hlc (fun q h => Nat.le_of_eq (hL12 q h).symm)
  have hP : va_P D kr_cl [(o, .inr (1, [.ref pa, .ref ga, .int 0, .null, .ref (o + 1), .ref (o + 2), .ref (o + 3), .ref (o + 4), .ref (o + 5)]))] H12 := hP
  refine lv_aload_n hx hb d_Pr_init_54 rfl (lv_at hl 0 rfl) ?_
  refine lv_iload_n hx hb d_Pr_init_55 rfl (lv_at hl 3 rfl) ?_
  refine kq_putF hx hb hts kt_F_Pr t_Pr t_Pr_ok n_Pr hown hK hP rfl 2 (by decide) kt_w63 rfl hin rfl (ty := t_Pr 2) (by decide +kernel) rfl rfl (Nat.le_of_ble_eq_true rfl) d_Pr_init_56 (fun H13 L13 hP z13 o13 hL13 => ?_)
  have hC := hC.put o13
  have hz : H13.size = o + 6 := z13.trans hz
  have kp : ∀ q : Nat, q < o → H13[q]? = H[q]? := fun q hq => (o13 q (by omega)).trans (kp q hq)
  have hlc := t_lL (free := fun q => o ≤ q) hlc (fun q h => Nat.le_of_eq (hL13 q h).symm)
  have hP : va_P D kr_cl [(o, .inr (1, [.ref pa, .ref ga, .int (nI gw), .null, .ref (o + 1), .ref (o + 2), .ref (o + 3), .ref (o + 4), .ref (o + 5)]))] H13 := hP
  refine lv_aload_n hx hb d_Pr_init_59 rfl (lv_at hl 0 rfl) ?_
  refine lv_aload_n hx hb d_Pr_init_60 rfl (lv_at hl 1 rfl) ?_
  refine kq_clone (h := o + 6) hx hb (by rw [hml]; exact hl.1.symm) hown (hts _ (List.mem_cons_of_mem _ kt_w53)) (hts _ (List.mem_cons_of_mem _ kt_w54)) (hts _ (List.mem_cons_of_mem _ kt_w55)) (hts _ (List.mem_cons_of_mem _ kt_w56)) (hts _ (List.mem_cons_of_mem _ kt_w57)) hCa hK hL0 (hs.kept (kp pa hpa)) (Nat.le_of_ble_eq_true rfl) (Nat.le_of_ble_eq_true rfl) (Nat.le_of_ble_eq_true rfl) (Nat.le_of_ble_eq_true rfl) hz d_Pr_init_61 (fun H14 e14 z14 o14 => ?_)
  have hC := hC.push (H1 := H14) (x := kq_L cL 8 mm) hz (by rw [hz]; exact e14) (by rw [hz]; exact o14)
  have hz : H14.size = o + 7 := z14
  have hP := kn_keep hP (o14 o (by omega))
  have kp : ∀ q : Nat, q < o → H14[q]? = H[q]? := fun q hq => (o14 q (by omega)).trans (kp q hq)
  have hP : va_P D kr_cl [(o, .inr (1, [.ref pa, .ref ga, .int (nI gw), .null, .ref (o + 1), .ref (o + 2), .ref (o + 3), .ref (o + 4), .ref (o + 5)]))] H14 := hP
  refine kq_cast hx hb hown (hts _ (List.mem_cons_of_mem _ kt_w59)) e14 hcL d_Pr_init_64 ?_
  refine kq_putF hx hb hts kt_F_Pr t_Pr t_Pr_ok n_Pr hown hK hP rfl 3 (by decide) kt_w64 rfl hin rfl (ty := t_Pr 3) (by decide +kernel) rfl rfl (Nat.le_of_ble_eq_true rfl) d_Pr_init_67 (fun H15 L15 hP z15 o15 hL15 => ?_)
  have hC := hC.put o15
  have hz : H15.size = o + 7 := z15.trans hz
  have kp : ∀ q : Nat, q < o → H15[q]? = H[q]? := fun q hq => (o15 q (by omega)).trans (kp q hq)
  have hlc := t_lL (free := fun q => o ≤ q) hlc (fun q h => Nat.le_of_eq (hL15 q h).symm)
  have hP : va_P D kr_cl [(o, .inr (1, [.ref pa, .ref ga, .int (nI gw), .ref (o + 6), .ref (o + 1), .ref (o + 2), .ref (o + 3), .ref (o + 4), .ref (o + 5)]))] H15 := hP
  have e6 : H15[o + 6]? = some (kq_L cL 8 mm) := hC 5 _ rfl
  refine lv_aload_n hx hb d_Pr_init_70 rfl (lv_at hl 0 rfl) ?_
  refine kq_get hx hb hts kt_F_Pr hown hK hP rfl 3 (by decide) kt_w64 rfl d_Pr_init_71 ?_
  refine lv_iconst (v := nI 0) hx hb d_Pr_init_74 (by decide) ?_
  refine lv_dup2_11 hx hb d_Pr_init_75 rfl rfl ?_
  refine kq_lald hx hb (kq_r.ofV hT e6) ((by decide : 0 < 8)) (by decide) (rfl) d_Pr_init_76 ?_
  refine lv_ldc2 hx hb hown (v := lN 2) (hts _ (List.mem_cons_of_mem _ kt_w60)) d_Pr_init_77 ?_
  refine lv_lsub hx hb d_Pr_init_80 ?_
  refine kq_rl (show (lN (kw_d mm 0)) - (lN 2) = lN (kw_d mm 0 - 2) from lN_sub h2) ?_
  refine kq_last hx hb (hT) (e6) ((by decide)) (by decide) ((by have := kw_d_lt mm 0; omega)) d_Pr_init_81 ?_
  rw [kn_low h2]
  obtain ⟨H16, hH16⟩ : ∃ X, X = kq_set H15 (o + 6) (kq_L cL 8 (mm - 2)) := ⟨_, rfl⟩
  rw [← hH16]
  have e9 : H16[o + 6]? = some (kq_L cL 8 (mm - 2)) := by rw [hH16]; exact kq_set_at e6
  have o9 : ∀ q : Nat, q ≠ o + 6 → H16[q]? = H15[q]? := fun q hq => by rw [hH16]; exact kq_set_ne hq
  have hC := hC.set (j := 5) e9 o9
  have hz : H16.size = o + 7 := by rw [hH16, kq_set_size]; exact hz
  have hP := kn_keep hP (o9 o (by omega))
  have kp : ∀ q : Nat, q < o → H16[q]? = H[q]? := fun q hq => (o9 q (by omega)).trans (kp q hq)
  have hlc := t_lc (free := fun q => o ≤ q) (a := o + 6) (i := 0) hlc (by omega)
  have hR : ∀ k, 2 ≤ k → k ≤ 5 → H16[o + k]? = some (kq_L cL 8 0) := fun k k1 k2 => by
    rcases (show k = 2 ∨ k = 3 ∨ k = 4 ∨ k = 5 by omega) with rfl | rfl | rfl | rfl
    · exact hC 1 _ rfl
    · exact hC 2 _ rfl
    · exact hC 3 _ rfl
    · exact hC 4 _ rfl
  exact W.vret hx hb hret (fun t ht _ => ⟨_, rfl, rfl, by rw [ht]; exact hz, fun q hq => by rw [ht]; exact kp q hq, by rw [ht]; exact ⟨hP, hC 0 _ rfl, hR, e9⟩⟩) hlc d_Pr_init_82
