/-! The constructors of Spot and Curve (own rows). -/
theorem kn_K_st {D : va_G} {tys : List (ClassId × FieldType)} : kq_st (va_K D kr_cl tys) := fun _ _ hv q => va_K.moved hv q
def kn_sp (D : va_G) (cL : ClassId) (H : Heap) (o : Nat) : Prop := va_P D kr_cl [(o, .inr (2, [.ref (o + 1), .ref (o + 2), .int (kq_z true)]))] H ∧ H[o + 1]? = some (kq_L cL 8 0) ∧ H[o + 2]? = some (kq_L cL 8 0)
theorem kn_sp.kept {D : va_G} {cL : ClassId} {H H1 : Heap} {o : Nat} (h : kn_sp D cL H o) (e : ∀ q : Nat, o ≤ q → q < o + 3 → H1[q]? = H[q]?) : kn_sp D cL H1 o :=
  ⟨kn_keep h.1 (e _ (by omega) (by omega)), (e _ (by omega) (by omega)).trans h.2.1, (e _ (by omega) (by omega)).trans h.2.2⟩
def kn_cu (D : va_G) (cL : ClassId) (H : Heap) (o h : Nat) : Prop := va_P D kr_cl [(o, .inr (0, [.ref h, .ref (o + 1), .ref (o + 2), .ref (o + 3), .ref (o + 4), .ref (o + 5), .ref (o + 6), .ref (o + 7), .ref (o + 8), .ref (o + 9), .ref (o + 10), .ref (o + 11)]))] H ∧ ∀ k, 1 ≤ k → k ≤ 11 → H[o + k]? = some (kq_L cL 8 0)
theorem kn_cu.kept {D : va_G} {cL : ClassId} {H H1 : Heap} {o h : Nat} (g : kn_cu D cL H o h) (e : ∀ q : Nat, o ≤ q → q < o + 12 → H1[q]? = H[q]?) : kn_cu D cL H1 o h :=
  ⟨kn_keep g.1 (e _ (by omega) (by omega)), fun k k1 k2 => (e _ (by omega) (by omega)).trans (g.2 k k1 k2)⟩
theorem d_Sp_init_0 : decode b_Sp_init 0 = .ok (.aload_n 0, 1) := by decide +kernel
theorem d_Sp_init_1 : decode b_Sp_init 1 = .ok (.invokespecial 3, 3) := by decide +kernel
theorem d_Sp_init_4 : decode b_Sp_init 4 = .ok (.aload_n 0, 1) := by decide +kernel
theorem d_Sp_init_5 : decode b_Sp_init 5 = .ok (.bipush 8, 2) := by decide +kernel
theorem d_Sp_init_7 : decode b_Sp_init 7 = .ok (.newarray .long, 2) := by decide +kernel
theorem d_Sp_init_9 : decode b_Sp_init 9 = .ok (.putfield 9, 3) := by decide +kernel
theorem d_Sp_init_12 : decode b_Sp_init 12 = .ok (.aload_n 0, 1) := by decide +kernel
theorem d_Sp_init_13 : decode b_Sp_init 13 = .ok (.bipush 8, 2) := by decide +kernel
theorem d_Sp_init_15 : decode b_Sp_init 15 = .ok (.newarray .long, 2) := by decide +kernel
theorem d_Sp_init_17 : decode b_Sp_init 17 = .ok (.putfield 15, 3) := by decide +kernel
theorem d_Sp_init_20 : decode b_Sp_init 20 = .ok (.aload_n 0, 1) := by decide +kernel
theorem d_Sp_init_21 : decode b_Sp_init 21 = .ok (.iconst 1, 1) := by decide +kernel
theorem d_Sp_init_22 : decode b_Sp_init 22 = .ok (.putfield 18, 3) := by decide +kernel
theorem d_Sp_init_25 : decode b_Sp_init 25 = .ok (.return_, 1) := by decide +kernel
set_option maxHeartbeats 4000000 in
set_option maxRecDepth 100000 in
theorem c_Sp_init (l : Launch) (D : va_G) (tys : List (ClassId × FieldType)) (cL : ClassId) (tL : Nat) (hL0 : tys[tL]? = some (cL, .long)) (H : Heap) (o : Nat) (hz : H.size = o + 1) (hP : va_P D kr_cl [(o, .inr (2, [.null, .null, .int 0]))] H) : Met l y_Sp_init w_Sp_init ({ frames := 1, cells := 2, slots := 16, locals := 12 }) (kq_P [.ref o] H (va_K D kr_cl tys)) (kq_Q (fun o1 H1 => o1 = none ∧ H1.size = o + 3 ∧ (∀ q : Nat, q < o → H1[q]? = H[q]?) ∧ kn_sp D cL H1 o)) 2 16 (fun q => o ≤ q) := by
  refine Met.ofW (cc := b_Sp_init) (maxL := 1) (ret := none) (by decide) rfl ?_
  intro p e s m args below meth c s₁ B0 hml hv
  obtain ⟨rfl, hH, hK⟩ := hv
  have hx := B0.exec
  have hb := B0.bytes
  have hret := B0.returns
  have hts := atoms_spec (ws := w_Sp_init) B0.pre
  have hown : s.vm.findClass R_Sp = some m.cls := findClass_of_methodNamed B0.named
  have hlocks := B0.notSynchronized
  rw [hH]
  have hl := lv_entry ([.ref o]) (n := 1) (Nat.le_of_ble_eq_true rfl)
  rw [lg_entry_eq]
  generalize (lg_sl ([.ref o]) ++ List.replicate (1 - (lg_sl ([.ref o])).length) Slot.unset).toArray = ls at hl ⊢
  have hl : lv_has ls 1 [(0, .ref o)] := hl
  have hcL : s.vm.findClass ("[" ++ FieldType.long.toString) = some cL := (hK.2 tL _ hL0).2
  have hin : meth.name = "<init>" := (name_of_methodNamed B0.named B0.method).1
  have hlc : ∀ q ∈ ([] : List Loc), o ≤ q.base := fun q h => by cases h
  have kp : ∀ q : Nat, q < o → H[q]? = H[q]? := fun _ _ => rfl
  have hC := kn_C.nil H o
  refine lv_aload_n hx hb d_Sp_init_0 rfl (lv_at hl 0 rfl) ?_
  refine kq_obj hx hb (by rw [hml]; exact hl.1.symm) hts hown kt_w25 (Nat.le_of_ble_eq_true rfl) (Nat.le_of_ble_eq_true rfl) d_Sp_init_1 ?_
  refine lv_aload_n hx hb d_Sp_init_4 rfl (lv_at hl 0 rfl) ?_
  refine lv_bipush (v := nI 8) hx hb d_Sp_init_5 (by decide) ?_
  refine kq_newa (atype := .long) (ty := .long) (h := o + 1) hx hb (hts _ (List.mem_cons_of_mem _ kt_w42)) rfl hcL (nI_pos (by decide)) (nI_clamp (by decide)) (by decide) (Nat.le_of_ble_eq_true rfl) (Nat.le_of_ble_eq_true rfl) hz d_Sp_init_7 (fun H1 e1 z1 o1 => ?_)
  rw [kn_L0] at e1
  have hC := hC.push (H1 := H1) (x := kq_L cL 8 0) hz (by rw [hz]; exact e1) (by rw [hz]; exact o1)
  have hz : H1.size = o + 2 := z1
  have hP := kn_keep hP (o1 o (by omega))
  have kp : ∀ q : Nat, q < o → H1[q]? = H[q]? := fun q hq => (o1 q (by omega)).trans (kp q hq)
  have hP : va_P D kr_cl [(o, .inr (2, [.null, .null, .int 0]))] H1 := hP
  refine kq_putF hx hb hts kt_F_Sp t_Sp t_Sp_ok n_Sp hown hK hP rfl 0 (by decide) kt_w26 rfl hin rfl (ty := t_Sp 0) (by decide +kernel) rfl rfl (Nat.le_of_ble_eq_true rfl) d_Sp_init_9 (fun H2 L2 hP z2 o2 hL2 => ?_)
  have hC := hC.put o2
  have hz : H2.size = o + 2 := z2.trans hz
  have kp : ∀ q : Nat, q < o → H2[q]? = H[q]? := fun q hq => (o2 q (by omega)).trans (kp q hq)
  have hlc := t_lL (free := fun q => o ≤ q) hlc (fun q h => Nat.le_of_eq (hL2 q h).symm)
  have hP : va_P D kr_cl [(o, .inr (2, [.ref (o + 1), .null, .int 0]))] H2 := hP
  refine lv_aload_n hx hb d_Sp_init_12 rfl (lv_at hl 0 rfl) ?_
  refine lv_bipush (v := nI 8) hx hb d_Sp_init_13 (by decide) ?_
  refine kq_newa (atype := .long) (ty := .long) (h := o + 2) hx hb (hts _ (List.mem_cons_of_mem _ kt_w42)) rfl hcL (nI_pos (by decide)) (nI_clamp (by decide)) (by decide) (Nat.le_of_ble_eq_true rfl) (Nat.le_of_ble_eq_true rfl) hz d_Sp_init_15 (fun H3 e3 z3 o3 => ?_)
  rw [kn_L0] at e3
  have hC := hC.push (H1 := H3) (x := kq_L cL 8 0) hz (by rw [hz]; exact e3) (by rw [hz]; exact o3)
  have hz : H3.size = o + 3 := z3
  have hP := kn_keep hP (o3 o (by omega))
  have kp : ∀ q : Nat, q < o → H3[q]? = H[q]? := fun q hq => (o3 q (by omega)).trans (kp q hq)
  have hP : va_P D kr_cl [(o, .inr (2, [.ref (o + 1), .null, .int 0]))] H3 := hP
  refine kq_putF hx hb hts kt_F_Sp t_Sp t_Sp_ok n_Sp hown hK hP rfl 1 (by decide) kt_w29 rfl hin rfl (ty := t_Sp 1) (by decide +kernel) rfl rfl (Nat.le_of_ble_eq_true rfl) d_Sp_init_17 (fun H4 L4 hP z4 o4 hL4 => ?_)
  have hC := hC.put o4
  have hz : H4.size = o + 3 := z4.trans hz
  have kp : ∀ q : Nat, q < o → H4[q]? = H[q]? := fun q hq => (o4 q (by omega)).trans (kp q hq)
  have hlc := t_lL (free := fun q => o ≤ q) hlc (fun q h => Nat.le_of_eq (hL4 q h).symm)
  have hP : va_P D kr_cl [(o, .inr (2, [.ref (o + 1), .ref (o + 2), .int 0]))] H4 := hP
  refine lv_aload_n hx hb d_Sp_init_20 rfl (lv_at hl 0 rfl) ?_
  refine lv_iconst (v := nI 1) hx hb d_Sp_init_21 (by decide) ?_
  refine kq_ri (show nI 1 = kq_z true from rfl) ?_
  refine kq_put hx hb hts kt_F_Sp t_Sp t_Sp_ok n_Sp hown hK hP rfl 2 (by decide) kt_w32 rfl (ty := .boolean) (by decide +kernel) (kx_nz _) (kx_fz _) (Nat.le_of_ble_eq_true rfl) d_Sp_init_22 (fun H5 L5 hP z5 o5 hL5 => ?_)
  have hC := hC.put o5
  have hz : H5.size = o + 3 := z5.trans hz
  have kp : ∀ q : Nat, q < o → H5[q]? = H[q]? := fun q hq => (o5 q (by omega)).trans (kp q hq)
  have hlc := t_lL (free := fun q => o ≤ q) hlc (fun q h => Nat.le_of_eq (hL5 q h).symm)
  have hP : va_P D kr_cl [(o, .inr (2, [.ref (o + 1), .ref (o + 2), .int (kq_z true)]))] H5 := hP
  exact W.vret hx hb hret (fun t ht _ => ⟨_, rfl, rfl, by rw [ht]; exact hz, fun q hq => by rw [ht]; exact kp q hq, by rw [ht]; exact hP, by rw [ht]; exact hC 0 _ rfl, by rw [ht]; exact hC 1 _ rfl⟩) hlc d_Sp_init_25
theorem d_Cu_init_0 : decode b_Cu_init 0 = .ok (.aload_n 0, 1) := by decide +kernel
theorem d_Cu_init_1 : decode b_Cu_init 1 = .ok (.invokespecial 3, 3) := by decide +kernel
theorem d_Cu_init_4 : decode b_Cu_init 4 = .ok (.aload_n 0, 1) := by decide +kernel
theorem d_Cu_init_5 : decode b_Cu_init 5 = .ok (.bipush 8, 2) := by decide +kernel
theorem d_Cu_init_7 : decode b_Cu_init 7 = .ok (.newarray .long, 2) := by decide +kernel
theorem d_Cu_init_9 : decode b_Cu_init 9 = .ok (.putfield 9, 3) := by decide +kernel
theorem d_Cu_init_12 : decode b_Cu_init 12 = .ok (.aload_n 0, 1) := by decide +kernel
theorem d_Cu_init_13 : decode b_Cu_init 13 = .ok (.bipush 8, 2) := by decide +kernel
theorem d_Cu_init_15 : decode b_Cu_init 15 = .ok (.newarray .long, 2) := by decide +kernel
theorem d_Cu_init_17 : decode b_Cu_init 17 = .ok (.putfield 15, 3) := by decide +kernel
theorem d_Cu_init_20 : decode b_Cu_init 20 = .ok (.aload_n 0, 1) := by decide +kernel
theorem d_Cu_init_21 : decode b_Cu_init 21 = .ok (.bipush 8, 2) := by decide +kernel
theorem d_Cu_init_23 : decode b_Cu_init 23 = .ok (.newarray .long, 2) := by decide +kernel
theorem d_Cu_init_25 : decode b_Cu_init 25 = .ok (.putfield 18, 3) := by decide +kernel
theorem d_Cu_init_28 : decode b_Cu_init 28 = .ok (.aload_n 0, 1) := by decide +kernel
theorem d_Cu_init_29 : decode b_Cu_init 29 = .ok (.bipush 8, 2) := by decide +kernel
theorem d_Cu_init_31 : decode b_Cu_init 31 = .ok (.newarray .long, 2) := by decide +kernel
theorem d_Cu_init_33 : decode b_Cu_init 33 = .ok (.putfield 21, 3) := by decide +kernel
theorem d_Cu_init_36 : decode b_Cu_init 36 = .ok (.aload_n 0, 1) := by decide +kernel
theorem d_Cu_init_37 : decode b_Cu_init 37 = .ok (.bipush 8, 2) := by decide +kernel
theorem d_Cu_init_39 : decode b_Cu_init 39 = .ok (.newarray .long, 2) := by decide +kernel
theorem d_Cu_init_41 : decode b_Cu_init 41 = .ok (.putfield 24, 3) := by decide +kernel
theorem d_Cu_init_44 : decode b_Cu_init 44 = .ok (.aload_n 0, 1) := by decide +kernel
theorem d_Cu_init_45 : decode b_Cu_init 45 = .ok (.bipush 8, 2) := by decide +kernel
theorem d_Cu_init_47 : decode b_Cu_init 47 = .ok (.newarray .long, 2) := by decide +kernel
theorem d_Cu_init_49 : decode b_Cu_init 49 = .ok (.putfield 27, 3) := by decide +kernel
theorem d_Cu_init_52 : decode b_Cu_init 52 = .ok (.aload_n 0, 1) := by decide +kernel
theorem d_Cu_init_53 : decode b_Cu_init 53 = .ok (.bipush 8, 2) := by decide +kernel
theorem d_Cu_init_55 : decode b_Cu_init 55 = .ok (.newarray .long, 2) := by decide +kernel
theorem d_Cu_init_57 : decode b_Cu_init 57 = .ok (.putfield 30, 3) := by decide +kernel
theorem d_Cu_init_60 : decode b_Cu_init 60 = .ok (.aload_n 0, 1) := by decide +kernel
theorem d_Cu_init_61 : decode b_Cu_init 61 = .ok (.bipush 8, 2) := by decide +kernel
theorem d_Cu_init_63 : decode b_Cu_init 63 = .ok (.newarray .long, 2) := by decide +kernel
theorem d_Cu_init_65 : decode b_Cu_init 65 = .ok (.putfield 33, 3) := by decide +kernel
theorem d_Cu_init_68 : decode b_Cu_init 68 = .ok (.aload_n 0, 1) := by decide +kernel
theorem d_Cu_init_69 : decode b_Cu_init 69 = .ok (.bipush 8, 2) := by decide +kernel
theorem d_Cu_init_71 : decode b_Cu_init 71 = .ok (.newarray .long, 2) := by decide +kernel
theorem d_Cu_init_73 : decode b_Cu_init 73 = .ok (.putfield 36, 3) := by decide +kernel
theorem d_Cu_init_76 : decode b_Cu_init 76 = .ok (.aload_n 0, 1) := by decide +kernel
theorem d_Cu_init_77 : decode b_Cu_init 77 = .ok (.bipush 8, 2) := by decide +kernel
theorem d_Cu_init_79 : decode b_Cu_init 79 = .ok (.newarray .long, 2) := by decide +kernel
theorem d_Cu_init_81 : decode b_Cu_init 81 = .ok (.putfield 39, 3) := by decide +kernel
theorem d_Cu_init_84 : decode b_Cu_init 84 = .ok (.aload_n 0, 1) := by decide +kernel
theorem d_Cu_init_85 : decode b_Cu_init 85 = .ok (.bipush 8, 2) := by decide +kernel
theorem d_Cu_init_87 : decode b_Cu_init 87 = .ok (.newarray .long, 2) := by decide +kernel
theorem d_Cu_init_89 : decode b_Cu_init 89 = .ok (.putfield 42, 3) := by decide +kernel
theorem d_Cu_init_92 : decode b_Cu_init 92 = .ok (.aload_n 0, 1) := by decide +kernel
theorem d_Cu_init_93 : decode b_Cu_init 93 = .ok (.aload_n 1, 1) := by decide +kernel
theorem d_Cu_init_94 : decode b_Cu_init 94 = .ok (.putfield 45, 3) := by decide +kernel
theorem d_Cu_init_97 : decode b_Cu_init 97 = .ok (.return_, 1) := by decide +kernel
set_option maxHeartbeats 4000000 in
set_option maxRecDepth 100000 in
theorem c_Cu_init (l : Launch) (D : va_G) (tys : List (ClassId × FieldType)) (cL : ClassId) (tL : Nat) (hL0 : tys[tL]? = some (cL, .long)) (H : Heap) (o h : Nat) (hz : H.size = o + 1) (hP : va_P D kr_cl [(o, .inr (0, [.null, .null, .null, .null, .null, .null, .null, .null, .null, .null, .null, .null]))] H) : Met l y_Cu_init w_Cu_init ({ frames := 1, cells := 11, slots := 88, locals := 12 }) (kq_P [.ref o, .ref h] H (va_K D kr_cl tys)) (kq_Q (fun o1 H1 => o1 = none ∧ H1.size = o + 12 ∧ (∀ q : Nat, q < o → H1[q]? = H[q]?) ∧ kn_cu D cL H1 o h)) 11 88 (fun q => o ≤ q) := by
  refine Met.ofW (cc := b_Cu_init) (maxL := 2) (ret := none) (by decide) rfl ?_
  intro p e s m args below meth c s₁ B0 hml hv
  obtain ⟨rfl, hH, hK⟩ := hv
  have hx := B0.exec
  have hb := B0.bytes
  have hret := B0.returns
  have hts := atoms_spec (ws := w_Cu_init) B0.pre
  have hown : s.vm.findClass R_Cu = some m.cls := findClass_of_methodNamed B0.named
  have hlocks := B0.notSynchronized
  rw [hH]
  have hl := lv_entry ([.ref o, .ref h]) (n := 2) (Nat.le_of_ble_eq_true rfl)
  rw [lg_entry_eq]
  generalize (lg_sl ([.ref o, .ref h]) ++ List.replicate (2 - (lg_sl ([.ref o, .ref h])).length) Slot.unset).toArray = ls at hl ⊢
  have hl : lv_has ls 2 [(0, .ref o), (1, .ref h)] := hl
  have hcL : s.vm.findClass ("[" ++ FieldType.long.toString) = some cL := (hK.2 tL _ hL0).2
  have hin : meth.name = "<init>" := (name_of_methodNamed B0.named B0.method).1
  have hlc : ∀ q ∈ ([] : List Loc), o ≤ q.base := fun q h => by cases h
  have kp : ∀ q : Nat, q < o → H[q]? = H[q]? := fun _ _ => rfl
  have hC := kn_C.nil H o
  refine lv_aload_n hx hb d_Cu_init_0 rfl (lv_at hl 0 rfl) ?_
  refine kq_obj hx hb (by rw [hml]; exact hl.1.symm) hts hown kt_w98 (Nat.le_of_ble_eq_true rfl) (Nat.le_of_ble_eq_true rfl) d_Cu_init_1 ?_
  refine lv_aload_n hx hb d_Cu_init_4 rfl (lv_at hl 0 rfl) ?_
  refine lv_bipush (v := nI 8) hx hb d_Cu_init_5 (by decide) ?_
  refine kq_newa (atype := .long) (ty := .long) (h := o + 1) hx hb (hts _ (List.mem_cons_of_mem _ kt_w42)) rfl hcL (nI_pos (by decide)) (nI_clamp (by decide)) (by decide) (Nat.le_of_ble_eq_true rfl) (Nat.le_of_ble_eq_true rfl) hz d_Cu_init_7 (fun H1 e1 z1 o1 => ?_)
  rw [kn_L0] at e1
  have hC := hC.push (H1 := H1) (x := kq_L cL 8 0) hz (by rw [hz]; exact e1) (by rw [hz]; exact o1)
  have hz : H1.size = o + 2 := z1
  have hP := kn_keep hP (o1 o (by omega))
  have kp : ∀ q : Nat, q < o → H1[q]? = H[q]? := fun q hq => (o1 q (by omega)).trans (kp q hq)
  have hP : va_P D kr_cl [(o, .inr (0, [.null, .null, .null, .null, .null, .null, .null, .null, .null, .null, .null, .null]))] H1 := hP
  refine kq_putF hx hb hts kt_F_Cu t_Cu t_Cu_ok n_Cu hown hK hP rfl 1 (by decide) kt_w100 rfl hin rfl (ty := t_Cu 1) (by decide +kernel) rfl rfl (Nat.le_of_ble_eq_true rfl) d_Cu_init_9 (fun H2 L2 hP z2 o2 hL2 => ?_)
  have hC := hC.put o2
  have hz : H2.size = o + 2 := z2.trans hz
  have kp : ∀ q : Nat, q < o → H2[q]? = H[q]? := fun q hq => (o2 q (by omega)).trans (kp q hq)
  have hlc := t_lL (free := fun q => o ≤ q) hlc (fun q h => Nat.le_of_eq (hL2 q h).symm)
  have hP : va_P D kr_cl [(o, .inr (0, [.null, .ref (o + 1), .null, .null, .null, .null, .null, .null, .null, .null, .null, .null]))] H2 := hP
  refine lv_aload_n hx hb d_Cu_init_12 rfl (lv_at hl 0 rfl) ?_
  refine lv_bipush (v := nI 8) hx hb d_Cu_init_13 (by decide) ?_
  refine kq_newa (atype := .long) (ty := .long) (h := o + 2) hx hb (hts _ (List.mem_cons_of_mem _ kt_w42)) rfl hcL (nI_pos (by decide)) (nI_clamp (by decide)) (by decide) (Nat.le_of_ble_eq_true rfl) (Nat.le_of_ble_eq_true rfl) hz d_Cu_init_15 (fun H3 e3 z3 o3 => ?_)
  rw [kn_L0] at e3
  have hC := hC.push (H1 := H3) (x := kq_L cL 8 0) hz (by rw [hz]; exact e3) (by rw [hz]; exact o3)
  have hz : H3.size = o + 3 := z3
  have hP := kn_keep hP (o3 o (by omega))
  have kp : ∀ q : Nat, q < o → H3[q]? = H[q]? := fun q hq => (o3 q (by omega)).trans (kp q hq)
  have hP : va_P D kr_cl [(o, .inr (0, [.null, .ref (o + 1), .null, .null, .null, .null, .null, .null, .null, .null, .null, .null]))] H3 := hP
  refine kq_putF hx hb hts kt_F_Cu t_Cu t_Cu_ok n_Cu hown hK hP rfl 2 (by decide) kt_w101 rfl hin rfl (ty := t_Cu 2) (by decide +kernel) rfl rfl (Nat.le_of_ble_eq_true rfl) d_Cu_init_17 (fun H4 L4 hP z4 o4 hL4 => ?_)
  have hC := hC.put o4
  have hz : H4.size = o + 3 := z4.trans hz
  have kp : ∀ q : Nat, q < o → H4[q]? = H[q]? := fun q hq => (o4 q (by omega)).trans (kp q hq)
  have hlc := t_lL (free := fun q => o ≤ q) hlc (fun q h => Nat.le_of_eq (hL4 q h).symm)
  have hP : va_P D kr_cl [(o, .inr (0, [.null, .ref (o + 1), .ref (o + 2), .null, .null, .null, .null, .null, .null, .null, .null, .null]))] H4 := hP
  refine lv_aload_n hx hb d_Cu_init_20 rfl (lv_at hl 0 rfl) ?_
  refine lv_bipush (v := nI 8) hx hb d_Cu_init_21 (by decide) ?_
  refine kq_newa (atype := .long) (ty := .long) (h := o + 3) hx hb (hts _ (List.mem_cons_of_mem _ kt_w42)) rfl hcL (nI_pos (by decide)) (nI_clamp (by decide)) (by decide) (Nat.le_of_ble_eq_true rfl) (Nat.le_of_ble_eq_true rfl) hz d_Cu_init_23 (fun H5 e5 z5 o5 => ?_)
  rw [kn_L0] at e5
  have hC := hC.push (H1 := H5) (x := kq_L cL 8 0) hz (by rw [hz]; exact e5) (by rw [hz]; exact o5)
  have hz : H5.size = o + 4 := z5
  have hP := kn_keep hP (o5 o (by omega))
  have kp : ∀ q : Nat, q < o → H5[q]? = H[q]? := fun q hq => (o5 q (by omega)).trans (kp q hq)
  have hP : va_P D kr_cl [(o, .inr (0, [.null, .ref (o + 1), .ref (o + 2), .null, .null, .null, .null, .null, .null, .null, .null, .null]))] H5 := hP
  refine kq_putF hx hb hts kt_F_Cu t_Cu t_Cu_ok n_Cu hown hK hP rfl 3 (by decide) kt_w102 rfl hin rfl (ty := t_Cu 3) (by decide +kernel) rfl rfl (Nat.le_of_ble_eq_true rfl) d_Cu_init_25 (fun H6 L6 hP z6 o6 hL6 => ?_)
  have hC := hC.put o6
  have hz : H6.size = o + 4 := z6.trans hz
  have kp : ∀ q : Nat, q < o → H6[q]? = H[q]? := fun q hq => (o6 q (by omega)).trans (kp q hq)
  have hlc := t_lL (free := fun q => o ≤ q) hlc (fun q h => Nat.le_of_eq (hL6 q h).symm)
  have hP : va_P D kr_cl [(o, .inr (0, [.null, .ref (o + 1), .ref (o + 2), .ref (o + 3), .null, .null, .null, .null, .null, .null, .null, .null]))] H6 := hP
  refine lv_aload_n hx hb d_Cu_init_28 rfl (lv_at hl 0 rfl) ?_
  refine lv_bipush (v := nI 8) hx hb d_Cu_init_29 (by decide) ?_
  refine kq_newa (atype := .long) (ty := .long) (h := o + 4) hx hb (hts _ (List.mem_cons_of_mem _ kt_w42)) rfl hcL (nI_pos (by decide)) (nI_clamp (by decide)) (by decide) (Nat.le_of_ble_eq_true rfl) (Nat.le_of_ble_eq_true rfl) hz d_Cu_init_31 (fun H7 e7 z7 o7 => ?_)
  rw [kn_L0] at e7
  have hC := hC.push (H1 := H7) (x := kq_L cL 8 0) hz (by rw [hz]; exact e7) (by rw [hz]; exact o7)
  have hz : H7.size = o + 5 := z7
  have hP := kn_keep hP (o7 o (by omega))
  have kp : ∀ q : Nat, q < o → H7[q]? = H[q]? := fun q hq => (o7 q (by omega)).trans (kp q hq)
  have hP : va_P D kr_cl [(o, .inr (0, [.null, .ref (o + 1), .ref (o + 2), .ref (o + 3), .null, .null, .null, .null, .null, .null, .null, .null]))] H7 := hP
  refine kq_putF hx hb hts kt_F_Cu t_Cu t_Cu_ok n_Cu hown hK hP rfl 4 (by decide) kt_w103 rfl hin rfl (ty := t_Cu 4) (by decide +kernel) rfl rfl (Nat.le_of_ble_eq_true rfl) d_Cu_init_33 (fun H8 L8 hP z8 o8 hL8 => ?_)
  have hC := hC.put o8
  have hz : H8.size = o + 5 := z8.trans hz
  have kp : ∀ q : Nat, q < o → H8[q]? = H[q]? := fun q hq => (o8 q (by omega)).trans (kp q hq)
  have hlc := t_lL (free := fun q => o ≤ q) hlc (fun q h => Nat.le_of_eq (hL8 q h).symm)
  have hP : va_P D kr_cl [(o, .inr (0, [.null, .ref (o + 1), .ref (o + 2), .ref (o + 3), .ref (o + 4), .null, .null, .null, .null, .null, .null, .null]))] H8 := hP
  refine lv_aload_n hx hb d_Cu_init_36 rfl (lv_at hl 0 rfl) ?_
  refine lv_bipush (v := nI 8) hx hb d_Cu_init_37 (by decide) ?_
  refine kq_newa (atype := .long) (ty := .long) (h := o + 5) hx hb (hts _ (List.mem_cons_of_mem _ kt_w42)) rfl hcL (nI_pos (by decide)) (nI_clamp (by decide)) (by decide) (Nat.le_of_ble_eq_true rfl) (Nat.le_of_ble_eq_true rfl) hz d_Cu_init_39 (fun H9 e9 z9 o9 => ?_)
  rw [kn_L0] at e9
  have hC := hC.push (H1 := H9) (x := kq_L cL 8 0) hz (by rw [hz]; exact e9) (by rw [hz]; exact o9)
  have hz : H9.size = o + 6 := z9
  have hP := kn_keep hP (o9 o (by omega))
  have kp : ∀ q : Nat, q < o → H9[q]? = H[q]? := fun q hq => (o9 q (by omega)).trans (kp q hq)
  have hP : va_P D kr_cl [(o, .inr (0, [.null, .ref (o + 1), .ref (o + 2), .ref (o + 3), .ref (o + 4), .null, .null, .null, .null, .null, .null, .null]))] H9 := hP
  refine kq_putF hx hb hts kt_F_Cu t_Cu t_Cu_ok n_Cu hown hK hP rfl 5 (by decide) kt_w104 rfl hin rfl (ty := t_Cu 5) (by decide +kernel) rfl rfl (Nat.le_of_ble_eq_true rfl) d_Cu_init_41 (fun H10 L10 hP z10 o10 hL10 => ?_)
  have hC := hC.put o10
  have hz : H10.size = o + 6 := z10.trans hz
  have kp : ∀ q : Nat, q < o → H10[q]? = H[q]? := fun q hq => (o10 q (by omega)).trans (kp q hq)
  have hlc := t_lL (free := fun q => o ≤ q) hlc (fun q h => Nat.le_of_eq (hL10 q h).symm)
  have hP : va_P D kr_cl [(o, .inr (0, [.null, .ref (o + 1), .ref (o + 2), .ref (o + 3), .ref (o + 4), .ref (o + 5), .null, .null, .null, .null, .null, .null]))] H10 := hP
  refine lv_aload_n hx hb d_Cu_init_44 rfl (lv_at hl 0 rfl) ?_
  refine lv_bipush (v := nI 8) hx hb d_Cu_init_45 (by decide) ?_
  refine kq_newa (atype := .long) (ty := .long) (h := o + 6) hx hb (hts _ (List.mem_cons_of_mem _ kt_w42)) rfl hcL (nI_pos (by decide)) (nI_clamp (by decide)) (by decide) (Nat.le_of_ble_eq_true rfl) (Nat.le_of_ble_eq_true rfl) hz d_Cu_init_47 (fun H11 e11 z11 o11 => ?_)
  rw [kn_L0] at e11
  have hC := hC.push (H1 := H11) (x := kq_L cL 8 0) hz (by rw [hz]; exact e11) (by rw [hz]; exact o11)
  have hz : H11.size = o + 7 := z11
  have hP := kn_keep hP (o11 o (by omega))
  have kp : ∀ q : Nat, q < o → H11[q]? = H[q]? := fun q hq => (o11 q (by omega)).trans (kp q hq)
  have hP : va_P D kr_cl [(o, .inr (0, [.null, .ref (o + 1), .ref (o + 2), .ref (o + 3), .ref (o + 4), .ref (o + 5), .null, .null, .null, .null, .null, .null]))] H11 := hP
  refine kq_putF hx hb hts kt_F_Cu t_Cu t_Cu_ok n_Cu hown hK hP rfl 6 (by decide) kt_w105 rfl hin rfl (ty := t_Cu 6) (by decide +kernel) rfl rfl (Nat.le_of_ble_eq_true rfl) d_Cu_init_49 (fun H12 L12 hP z12 o12 hL12 => ?_)
  have hC := hC.put o12
  have hz : H12.size = o + 7 := z12.trans hz
  have kp : ∀ q : Nat, q < o → H12[q]? = H[q]? := fun q hq => (o12 q (by omega)).trans (kp q hq)
  have hlc := t_lL (free := fun q => o ≤ q) hlc (fun q h => Nat.le_of_eq (hL12 q h).symm)
  have hP : va_P D kr_cl [(o, .inr (0, [.null, .ref (o + 1), .ref (o + 2), .ref (o + 3), .ref (o + 4), .ref (o + 5), .ref (o + 6), .null, .null, .null, .null, .null]))] H12 := hP
  refine lv_aload_n hx hb d_Cu_init_52 rfl (lv_at hl 0 rfl) ?_
  refine lv_bipush (v := nI 8) hx hb d_Cu_init_53 (by decide) ?_
  refine kq_newa (atype := .long) (ty := .long) (h := o + 7) hx hb (hts _ (List.mem_cons_of_mem _ kt_w42)) rfl hcL (nI_pos (by decide)) (nI_clamp (by decide)) (by decide) (Nat.le_of_ble_eq_true rfl) (Nat.le_of_ble_eq_true rfl) hz d_Cu_init_55 (fun H13 e13 z13 o13 => ?_)
  rw [kn_L0] at e13
  have hC := hC.push (H1 := H13) (x := kq_L cL 8 0) hz (by rw [hz]; exact e13) (by rw [hz]; exact o13)
  have hz : H13.size = o + 8 := z13
  have hP := kn_keep hP (o13 o (by omega))
  have kp : ∀ q : Nat, q < o → H13[q]? = H[q]? := fun q hq => (o13 q (by omega)).trans (kp q hq)
  have hP : va_P D kr_cl [(o, .inr (0, [.null, .ref (o + 1), .ref (o + 2), .ref (o + 3), .ref (o + 4), .ref (o + 5), .ref (o + 6), .null, .null, .null, .null, .null]))] H13 := hP
  refine kq_putF hx hb hts kt_F_Cu t_Cu t_Cu_ok n_Cu hown hK hP rfl 7 (by decide) kt_w106 rfl hin rfl (ty := t_Cu 7) (by decide +kernel) rfl rfl (Nat.le_of_ble_eq_true rfl) d_Cu_init_57 (fun H14 L14 hP z14 o14 hL14 => ?_)
  have hC := hC.put o14
  have hz : H14.size = o + 8 := z14.trans hz
  have kp : ∀ q : Nat, q < o → H14[q]? = H[q]? := fun q hq => (o14 q (by omega)).trans (kp q hq)
  have hlc := t_lL (free := fun q => o ≤ q) hlc (fun q h => Nat.le_of_eq (hL14 q h).symm)
  have hP : va_P D kr_cl [(o, .inr (0, [.null, .ref (o + 1), .ref (o + 2), .ref (o + 3), .ref (o + 4), .ref (o + 5), .ref (o + 6), .ref (o + 7), .null, .null, .null, .null]))] H14 := hP
  refine lv_aload_n hx hb d_Cu_init_60 rfl (lv_at hl 0 rfl) ?_
  refine lv_bipush (v := nI 8) hx hb d_Cu_init_61 (by decide) ?_
  refine kq_newa (atype := .long) (ty := .long) (h := o + 8) hx hb (hts _ (List.mem_cons_of_mem _ kt_w42)) rfl hcL (nI_pos (by decide)) (nI_clamp (by decide)) (by decide) (Nat.le_of_ble_eq_true rfl) (Nat.le_of_ble_eq_true rfl) hz d_Cu_init_63 (fun H15 e15 z15 o15 => ?_)
  rw [kn_L0] at e15
  have hC := hC.push (H1 := H15) (x := kq_L cL 8 0) hz (by rw [hz]; exact e15) (by rw [hz]; exact o15)
  have hz : H15.size = o + 9 := z15
  have hP := kn_keep hP (o15 o (by omega))
  have kp : ∀ q : Nat, q < o → H15[q]? = H[q]? := fun q hq => (o15 q (by omega)).trans (kp q hq)
  have hP : va_P D kr_cl [(o, .inr (0, [.null, .ref (o + 1), .ref (o + 2), .ref (o + 3), .ref (o + 4), .ref (o + 5), .ref (o + 6), .ref (o + 7), .null, .null, .null, .null]))] H15 := hP
  refine kq_putF hx hb hts kt_F_Cu t_Cu t_Cu_ok n_Cu hown hK hP rfl 8 (by decide) kt_w107 rfl hin rfl (ty := t_Cu 8) (by decide +kernel) rfl rfl (Nat.le_of_ble_eq_true rfl) d_Cu_init_65 (fun H16 L16 hP z16 o16 hL16 => ?_)
  have hC := hC.put o16
  have hz : H16.size = o + 9 := z16.trans hz
  have kp : ∀ q : Nat, q < o → H16[q]? = H[q]? := fun q hq => (o16 q (by omega)).trans (kp q hq)
  have hlc := t_lL (free := fun q => o ≤ q) hlc (fun q h => Nat.le_of_eq (hL16 q h).symm)
  have hP : va_P D kr_cl [(o, .inr (0, [.null, .ref (o + 1), .ref (o + 2), .ref (o + 3), .ref (o + 4), .ref (o + 5), .ref (o + 6), .ref (o + 7), .ref (o + 8), .null, .null, .null]))] H16 := hP
  refine lv_aload_n hx hb d_Cu_init_68 rfl (lv_at hl 0 rfl) ?_
  refine lv_bipush (v := nI 8) hx hb d_Cu_init_69 (by decide) ?_
  refine kq_newa (atype := .long) (ty := .long) (h := o + 9) hx hb (hts _ (List.mem_cons_of_mem _ kt_w42)) rfl hcL (nI_pos (by decide)) (nI_clamp (by decide)) (by decide) (Nat.le_of_ble_eq_true rfl) (Nat.le_of_ble_eq_true rfl) hz d_Cu_init_71 (fun H17 e17 z17 o17 => ?_)
  rw [kn_L0] at e17
  have hC := hC.push (H1 := H17) (x := kq_L cL 8 0) hz (by rw [hz]; exact e17) (by rw [hz]; exact o17)
  have hz : H17.size = o + 10 := z17
  have hP := kn_keep hP (o17 o (by omega))
  have kp : ∀ q : Nat, q < o → H17[q]? = H[q]? := fun q hq => (o17 q (by omega)).trans (kp q hq)
  have hP : va_P D kr_cl [(o, .inr (0, [.null, .ref (o + 1), .ref (o + 2), .ref (o + 3), .ref (o + 4), .ref (o + 5), .ref (o + 6), .ref (o + 7), .ref (o + 8), .null, .null, .null]))] H17 := hP
  refine kq_putF hx hb hts kt_F_Cu t_Cu t_Cu_ok n_Cu hown hK hP rfl 9 (by decide) kt_w108 rfl hin rfl (ty := t_Cu 9) (by decide +kernel) rfl rfl (Nat.le_of_ble_eq_true rfl) d_Cu_init_73 (fun H18 L18 hP z18 o18 hL18 => ?_)
  have hC := hC.put o18
  have hz : H18.size = o + 10 := z18.trans hz
  have kp : ∀ q : Nat, q < o → H18[q]? = H[q]? := fun q hq => (o18 q (by omega)).trans (kp q hq)
  have hlc := t_lL (free := fun q => o ≤ q) hlc (fun q h => Nat.le_of_eq (hL18 q h).symm)
  have hP : va_P D kr_cl [(o, .inr (0, [.null, .ref (o + 1), .ref (o + 2), .ref (o + 3), .ref (o + 4), .ref (o + 5), .ref (o + 6), .ref (o + 7), .ref (o + 8), .ref (o + 9), .null, .null]))] H18 := hP
  refine lv_aload_n hx hb d_Cu_init_76 rfl (lv_at hl 0 rfl) ?_
  refine lv_bipush (v := nI 8) hx hb d_Cu_init_77 (by decide) ?_
  refine kq_newa (atype := .long) (ty := .long) (h := o + 10) hx hb (hts _ (List.mem_cons_of_mem _ kt_w42)) rfl hcL (nI_pos (by decide)) (nI_clamp (by decide)) (by decide) (Nat.le_of_ble_eq_true rfl) (Nat.le_of_ble_eq_true rfl) hz d_Cu_init_79 (fun H19 e19 z19 o19 => ?_)
  rw [kn_L0] at e19
  have hC := hC.push (H1 := H19) (x := kq_L cL 8 0) hz (by rw [hz]; exact e19) (by rw [hz]; exact o19)
  have hz : H19.size = o + 11 := z19
  have hP := kn_keep hP (o19 o (by omega))
  have kp : ∀ q : Nat, q < o → H19[q]? = H[q]? := fun q hq => (o19 q (by omega)).trans (kp q hq)
  have hP : va_P D kr_cl [(o, .inr (0, [.null, .ref (o + 1), .ref (o + 2), .ref (o + 3), .ref (o + 4), .ref (o + 5), .ref (o + 6), .ref (o + 7), .ref (o + 8), .ref (o + 9), .null, .null]))] H19 := hP
  refine kq_putF hx hb hts kt_F_Cu t_Cu t_Cu_ok n_Cu hown hK hP rfl 10 (by decide) kt_w109 rfl hin rfl (ty := t_Cu 10) (by decide +kernel) rfl rfl (Nat.le_of_ble_eq_true rfl) d_Cu_init_81 (fun H20 L20 hP z20 o20 hL20 => ?_)
  have hC := hC.put o20
  have hz : H20.size = o + 11 := z20.trans hz
  have kp : ∀ q : Nat, q < o → H20[q]? = H[q]? := fun q hq => (o20 q (by omega)).trans (kp q hq)
  have hlc := t_lL (free := fun q => o ≤ q) hlc (fun q h => Nat.le_of_eq (hL20 q h).symm)
  have hP : va_P D kr_cl [(o, .inr (0, [.null, .ref (o + 1), .ref (o + 2), .ref (o + 3), .ref (o + 4), .ref (o + 5), .ref (o + 6), .ref (o + 7), .ref (o + 8), .ref (o + 9), .ref (o + 10), .null]))] H20 := hP
  refine lv_aload_n hx hb d_Cu_init_84 rfl (lv_at hl 0 rfl) ?_
  refine lv_bipush (v := nI 8) hx hb d_Cu_init_85 (by decide) ?_
  refine kq_newa (atype := .long) (ty := .long) (h := o + 11) hx hb (hts _ (List.mem_cons_of_mem _ kt_w42)) rfl hcL (nI_pos (by decide)) (nI_clamp (by decide)) (by decide) (Nat.le_of_ble_eq_true rfl) (Nat.le_of_ble_eq_true rfl) hz d_Cu_init_87 (fun H21 e21 z21 o21 => ?_)
  rw [kn_L0] at e21
  have hC := hC.push (H1 := H21) (x := kq_L cL 8 0) hz (by rw [hz]; exact e21) (by rw [hz]; exact o21)
  have hz : H21.size = o + 12 := z21
  have hP := kn_keep hP (o21 o (by omega))
  have kp : ∀ q : Nat, q < o → H21[q]? = H[q]? := fun q hq => (o21 q (by omega)).trans (kp q hq)
  have hP : va_P D kr_cl [(o, .inr (0, [.null, .ref (o + 1), .ref (o + 2), .ref (o + 3), .ref (o + 4), .ref (o + 5), .ref (o + 6), .ref (o + 7), .ref (o + 8), .ref (o + 9), .ref (o + 10), .null]))] H21 := hP
  refine kq_putF hx hb hts kt_F_Cu t_Cu t_Cu_ok n_Cu hown hK hP rfl 11 (by decide) kt_w110 rfl hin rfl (ty := t_Cu 11) (by decide +kernel) rfl rfl (Nat.le_of_ble_eq_true rfl) d_Cu_init_89 (fun H22 L22 hP z22 o22 hL22 => ?_)
  have hC := hC.put o22
  have hz : H22.size = o + 12 := z22.trans hz
  have kp : ∀ q : Nat, q < o → H22[q]? = H[q]? := fun q hq => (o22 q (by omega)).trans (kp q hq)
  have hlc := t_lL (free := fun q => o ≤ q) hlc (fun q h => Nat.le_of_eq (hL22 q h).symm)
  have hP : va_P D kr_cl [(o, .inr (0, [.null, .ref (o + 1), .ref (o + 2), .ref (o + 3), .ref (o + 4), .ref (o + 5), .ref (o + 6), .ref (o + 7), .ref (o + 8), .ref (o + 9), .ref (o + 10), .ref (o + 11)]))] H22 := hP
  refine lv_aload_n hx hb d_Cu_init_92 rfl (lv_at hl 0 rfl) ?_
  refine lv_aload_n hx hb d_Cu_init_93 rfl (lv_at hl 1 rfl) ?_
  refine kq_putF hx hb hts kt_F_Cu t_Cu t_Cu_ok n_Cu hown hK hP rfl 0 (by decide) kt_w99 rfl hin rfl (ty := t_Cu 0) (by decide +kernel) rfl rfl (Nat.le_of_ble_eq_true rfl) d_Cu_init_94 (fun H23 L23 hP z23 o23 hL23 => ?_)
  have hC := hC.put o23
  have hz : H23.size = o + 12 := z23.trans hz
  have kp : ∀ q : Nat, q < o → H23[q]? = H[q]? := fun q hq => (o23 q (by omega)).trans (kp q hq)
  have hlc := t_lL (free := fun q => o ≤ q) hlc (fun q h => Nat.le_of_eq (hL23 q h).symm)
  have hP : va_P D kr_cl [(o, .inr (0, [.ref h, .ref (o + 1), .ref (o + 2), .ref (o + 3), .ref (o + 4), .ref (o + 5), .ref (o + 6), .ref (o + 7), .ref (o + 8), .ref (o + 9), .ref (o + 10), .ref (o + 11)]))] H23 := hP
  have hR : ∀ k, 1 ≤ k → k ≤ 11 → H23[o + k]? = some (kq_L cL 8 0) := fun k k1 k2 => by
    rcases (show k = 1 ∨ k = 2 ∨ k = 3 ∨ k = 4 ∨ k = 5 ∨ k = 6 ∨ k = 7 ∨ k = 8 ∨ k = 9 ∨ k = 10 ∨ k = 11 by omega) with rfl | rfl | rfl | rfl | rfl | rfl | rfl | rfl | rfl | rfl | rfl
    · exact hC 0 _ rfl
    · exact hC 1 _ rfl
    · exact hC 2 _ rfl
    · exact hC 3 _ rfl
    · exact hC 4 _ rfl
    · exact hC 5 _ rfl
    · exact hC 6 _ rfl
    · exact hC 7 _ rfl
    · exact hC 8 _ rfl
    · exact hC 9 _ rfl
    · exact hC 10 _ rfl
  exact W.vret hx hb hret (fun t ht _ => ⟨_, rfl, rfl, by rw [ht]; exact hz, fun q hq => by rw [ht]; exact kp q hq, by rw [ht]; exact ⟨hP, hR⟩⟩) hlc d_Cu_init_97
