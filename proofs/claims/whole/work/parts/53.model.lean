/-! The constructor of KeyCurveModel (own rows). -/
def kn_MB (D : va_G) (tys : List (ClassId × FieldType)) (U : State) : Prop := va_K D kr_cl tys U ∧ (Cond.arrayOver (.array .int)).before #[] U = true
theorem kn_MB_st {D : va_G} {tys : List (ClassId × FieldType)} : kq_st (kn_MB D tys) := fun u U hv q => ⟨va_K.moved hv q.1, over_moved hv q.2⟩
/-- a new KeyCurveModel at mo -/
def kn_mo (D : va_G) (cI cII cZ : ClassId) (H : Heap) (mo : Nat) : Prop := va_P D kr_cl [(mo, .inr (4, [.ref (mo + 1), .ref (mo + 6), .ref (mo + 11), .ref (mo + 16), .ref (mo + 17), .ref (mo + 18), .ref (mo + 19), .ref (mo + 20), .ref (mo + 21), .ref (mo + 22), .ref (mo + 23), .ref (mo + 24), .ref (mo + 25), .ref (mo + 26), .ref (mo + 27), .ref (mo + 28), .ref (mo + 29), .int (kq_z false), .ref (mo + 30), .ref (mo + 31)]))] H ∧ (H[mo + 1]? = some (kn_R cII 4 4 (fun j => mo + 2 + j)) ∧ H[mo + 6]? = some (kn_R cII 4 4 (fun j => mo + 7 + j)) ∧ H[mo + 11]? = some (kn_R cII 4 4 (fun j => mo + 12 + j))) ∧ (∀ j, j < 4 → H[mo + 2 + j]? = some (kq_I cI 8 0) ∧ H[mo + 7 + j]? = some (kq_I cI 8 0) ∧ H[mo + 12 + j]? = some (kq_I cI 8 0)) ∧ (∃ bs : Nat → Bool, (∀ j, j < 4 → bs j = true) ∧ H[mo + 16]? = some (kq_B cZ bs)) ∧ H[mo + 17]? = some (kq_I cI 8 1) ∧ (∀ k, 18 ≤ k → k ≤ 31 → k ≠ 21 → H[mo + k]? = some (kq_I cI 8 0)) ∧ H[mo + 21]? = some (kq_I cI 16 0)
theorem d_Mo_init_0 : decode b_Mo_init 0 = .ok (.aload_n 0, 1) := by decide +kernel
theorem d_Mo_init_1 : decode b_Mo_init 1 = .ok (.invokespecial 1, 3) := by decide +kernel
theorem d_Mo_init_4 : decode b_Mo_init 4 = .ok (.aload_n 0, 1) := by decide +kernel
theorem d_Mo_init_5 : decode b_Mo_init 5 = .ok (.iconst 4, 1) := by decide +kernel
theorem d_Mo_init_6 : decode b_Mo_init 6 = .ok (.bipush 8, 2) := by decide +kernel
theorem d_Mo_init_8 : decode b_Mo_init 8 = .ok (.multianewarray 7 2, 4) := by decide +kernel
theorem d_Mo_init_12 : decode b_Mo_init 12 = .ok (.putfield 9, 3) := by decide +kernel
theorem d_Mo_init_15 : decode b_Mo_init 15 = .ok (.aload_n 0, 1) := by decide +kernel
theorem d_Mo_init_16 : decode b_Mo_init 16 = .ok (.iconst 4, 1) := by decide +kernel
theorem d_Mo_init_17 : decode b_Mo_init 17 = .ok (.bipush 8, 2) := by decide +kernel
theorem d_Mo_init_19 : decode b_Mo_init 19 = .ok (.multianewarray 7 2, 4) := by decide +kernel
theorem d_Mo_init_23 : decode b_Mo_init 23 = .ok (.putfield 14, 3) := by decide +kernel
theorem d_Mo_init_26 : decode b_Mo_init 26 = .ok (.aload_n 0, 1) := by decide +kernel
theorem d_Mo_init_27 : decode b_Mo_init 27 = .ok (.iconst 4, 1) := by decide +kernel
theorem d_Mo_init_28 : decode b_Mo_init 28 = .ok (.bipush 8, 2) := by decide +kernel
theorem d_Mo_init_30 : decode b_Mo_init 30 = .ok (.multianewarray 7 2, 4) := by decide +kernel
theorem d_Mo_init_34 : decode b_Mo_init 34 = .ok (.putfield 17, 3) := by decide +kernel
theorem d_Mo_init_37 : decode b_Mo_init 37 = .ok (.aload_n 0, 1) := by decide +kernel
theorem d_Mo_init_38 : decode b_Mo_init 38 = .ok (.iconst 4, 1) := by decide +kernel
theorem d_Mo_init_39 : decode b_Mo_init 39 = .ok (.newarray .boolean, 2) := by decide +kernel
theorem d_Mo_init_41 : decode b_Mo_init 41 = .ok (.dup, 1) := by decide +kernel
theorem d_Mo_init_42 : decode b_Mo_init 42 = .ok (.iconst 0, 1) := by decide +kernel
theorem d_Mo_init_43 : decode b_Mo_init 43 = .ok (.iconst 1, 1) := by decide +kernel
theorem d_Mo_init_44 : decode b_Mo_init 44 = .ok (.bastore, 1) := by decide +kernel
theorem d_Mo_init_45 : decode b_Mo_init 45 = .ok (.dup, 1) := by decide +kernel
theorem d_Mo_init_46 : decode b_Mo_init 46 = .ok (.iconst 1, 1) := by decide +kernel
theorem d_Mo_init_47 : decode b_Mo_init 47 = .ok (.iconst 1, 1) := by decide +kernel
theorem d_Mo_init_48 : decode b_Mo_init 48 = .ok (.bastore, 1) := by decide +kernel
theorem d_Mo_init_49 : decode b_Mo_init 49 = .ok (.dup, 1) := by decide +kernel
theorem d_Mo_init_50 : decode b_Mo_init 50 = .ok (.iconst 2, 1) := by decide +kernel
theorem d_Mo_init_51 : decode b_Mo_init 51 = .ok (.iconst 1, 1) := by decide +kernel
theorem d_Mo_init_52 : decode b_Mo_init 52 = .ok (.bastore, 1) := by decide +kernel
theorem d_Mo_init_53 : decode b_Mo_init 53 = .ok (.dup, 1) := by decide +kernel
theorem d_Mo_init_54 : decode b_Mo_init 54 = .ok (.iconst 3, 1) := by decide +kernel
theorem d_Mo_init_55 : decode b_Mo_init 55 = .ok (.iconst 1, 1) := by decide +kernel
theorem d_Mo_init_56 : decode b_Mo_init 56 = .ok (.bastore, 1) := by decide +kernel
theorem d_Mo_init_57 : decode b_Mo_init 57 = .ok (.putfield 20, 3) := by decide +kernel
theorem d_Mo_init_60 : decode b_Mo_init 60 = .ok (.aload_n 0, 1) := by decide +kernel
theorem d_Mo_init_61 : decode b_Mo_init 61 = .ok (.bipush 8, 2) := by decide +kernel
theorem d_Mo_init_63 : decode b_Mo_init 63 = .ok (.newarray .int, 2) := by decide +kernel
theorem d_Mo_init_65 : decode b_Mo_init 65 = .ok (.dup, 1) := by decide +kernel
theorem d_Mo_init_66 : decode b_Mo_init 66 = .ok (.iconst 0, 1) := by decide +kernel
theorem d_Mo_init_67 : decode b_Mo_init 67 = .ok (.iconst 1, 1) := by decide +kernel
theorem d_Mo_init_68 : decode b_Mo_init 68 = .ok (.iastore, 1) := by decide +kernel
theorem d_Mo_init_69 : decode b_Mo_init 69 = .ok (.dup, 1) := by decide +kernel
theorem d_Mo_init_70 : decode b_Mo_init 70 = .ok (.iconst 1, 1) := by decide +kernel
theorem d_Mo_init_71 : decode b_Mo_init 71 = .ok (.iconst 0, 1) := by decide +kernel
theorem d_Mo_init_72 : decode b_Mo_init 72 = .ok (.iastore, 1) := by decide +kernel
theorem d_Mo_init_73 : decode b_Mo_init 73 = .ok (.dup, 1) := by decide +kernel
theorem d_Mo_init_74 : decode b_Mo_init 74 = .ok (.iconst 2, 1) := by decide +kernel
theorem d_Mo_init_75 : decode b_Mo_init 75 = .ok (.iconst 0, 1) := by decide +kernel
theorem d_Mo_init_76 : decode b_Mo_init 76 = .ok (.iastore, 1) := by decide +kernel
theorem d_Mo_init_77 : decode b_Mo_init 77 = .ok (.dup, 1) := by decide +kernel
theorem d_Mo_init_78 : decode b_Mo_init 78 = .ok (.iconst 3, 1) := by decide +kernel
theorem d_Mo_init_79 : decode b_Mo_init 79 = .ok (.iconst 0, 1) := by decide +kernel
theorem d_Mo_init_80 : decode b_Mo_init 80 = .ok (.iastore, 1) := by decide +kernel
theorem d_Mo_init_81 : decode b_Mo_init 81 = .ok (.dup, 1) := by decide +kernel
theorem d_Mo_init_82 : decode b_Mo_init 82 = .ok (.iconst 4, 1) := by decide +kernel
theorem d_Mo_init_83 : decode b_Mo_init 83 = .ok (.iconst 0, 1) := by decide +kernel
theorem d_Mo_init_84 : decode b_Mo_init 84 = .ok (.iastore, 1) := by decide +kernel
theorem d_Mo_init_85 : decode b_Mo_init 85 = .ok (.dup, 1) := by decide +kernel
theorem d_Mo_init_86 : decode b_Mo_init 86 = .ok (.iconst 5, 1) := by decide +kernel
theorem d_Mo_init_87 : decode b_Mo_init 87 = .ok (.iconst 0, 1) := by decide +kernel
theorem d_Mo_init_88 : decode b_Mo_init 88 = .ok (.iastore, 1) := by decide +kernel
theorem d_Mo_init_89 : decode b_Mo_init 89 = .ok (.dup, 1) := by decide +kernel
theorem d_Mo_init_90 : decode b_Mo_init 90 = .ok (.bipush 6, 2) := by decide +kernel
theorem d_Mo_init_92 : decode b_Mo_init 92 = .ok (.iconst 0, 1) := by decide +kernel
theorem d_Mo_init_93 : decode b_Mo_init 93 = .ok (.iastore, 1) := by decide +kernel
theorem d_Mo_init_94 : decode b_Mo_init 94 = .ok (.dup, 1) := by decide +kernel
theorem d_Mo_init_95 : decode b_Mo_init 95 = .ok (.bipush 7, 2) := by decide +kernel
theorem d_Mo_init_97 : decode b_Mo_init 97 = .ok (.iconst 0, 1) := by decide +kernel
theorem d_Mo_init_98 : decode b_Mo_init 98 = .ok (.iastore, 1) := by decide +kernel
theorem d_Mo_init_99 : decode b_Mo_init 99 = .ok (.putfield 24, 3) := by decide +kernel
theorem d_Mo_init_102 : decode b_Mo_init 102 = .ok (.aload_n 0, 1) := by decide +kernel
theorem d_Mo_init_103 : decode b_Mo_init 103 = .ok (.bipush 8, 2) := by decide +kernel
theorem d_Mo_init_105 : decode b_Mo_init 105 = .ok (.newarray .int, 2) := by decide +kernel
theorem d_Mo_init_107 : decode b_Mo_init 107 = .ok (.putfield 28, 3) := by decide +kernel
theorem d_Mo_init_110 : decode b_Mo_init 110 = .ok (.aload_n 0, 1) := by decide +kernel
theorem d_Mo_init_111 : decode b_Mo_init 111 = .ok (.bipush 8, 2) := by decide +kernel
theorem d_Mo_init_113 : decode b_Mo_init 113 = .ok (.newarray .int, 2) := by decide +kernel
theorem d_Mo_init_115 : decode b_Mo_init 115 = .ok (.putfield 31, 3) := by decide +kernel
theorem d_Mo_init_118 : decode b_Mo_init 118 = .ok (.aload_n 0, 1) := by decide +kernel
theorem d_Mo_init_119 : decode b_Mo_init 119 = .ok (.bipush 8, 2) := by decide +kernel
theorem d_Mo_init_121 : decode b_Mo_init 121 = .ok (.newarray .int, 2) := by decide +kernel
theorem d_Mo_init_123 : decode b_Mo_init 123 = .ok (.putfield 34, 3) := by decide +kernel
theorem d_Mo_init_126 : decode b_Mo_init 126 = .ok (.aload_n 0, 1) := by decide +kernel
theorem d_Mo_init_127 : decode b_Mo_init 127 = .ok (.bipush 16, 2) := by decide +kernel
theorem d_Mo_init_129 : decode b_Mo_init 129 = .ok (.newarray .int, 2) := by decide +kernel
theorem d_Mo_init_131 : decode b_Mo_init 131 = .ok (.putfield 37, 3) := by decide +kernel
theorem d_Mo_init_134 : decode b_Mo_init 134 = .ok (.aload_n 0, 1) := by decide +kernel
theorem d_Mo_init_135 : decode b_Mo_init 135 = .ok (.bipush 8, 2) := by decide +kernel
theorem d_Mo_init_137 : decode b_Mo_init 137 = .ok (.newarray .int, 2) := by decide +kernel
theorem d_Mo_init_139 : decode b_Mo_init 139 = .ok (.putfield 40, 3) := by decide +kernel
theorem d_Mo_init_142 : decode b_Mo_init 142 = .ok (.aload_n 0, 1) := by decide +kernel
theorem d_Mo_init_143 : decode b_Mo_init 143 = .ok (.bipush 8, 2) := by decide +kernel
theorem d_Mo_init_145 : decode b_Mo_init 145 = .ok (.newarray .int, 2) := by decide +kernel
theorem d_Mo_init_147 : decode b_Mo_init 147 = .ok (.putfield 43, 3) := by decide +kernel
theorem d_Mo_init_150 : decode b_Mo_init 150 = .ok (.aload_n 0, 1) := by decide +kernel
theorem d_Mo_init_151 : decode b_Mo_init 151 = .ok (.bipush 8, 2) := by decide +kernel
theorem d_Mo_init_153 : decode b_Mo_init 153 = .ok (.newarray .int, 2) := by decide +kernel
theorem d_Mo_init_155 : decode b_Mo_init 155 = .ok (.putfield 46, 3) := by decide +kernel
theorem d_Mo_init_158 : decode b_Mo_init 158 = .ok (.aload_n 0, 1) := by decide +kernel
theorem d_Mo_init_159 : decode b_Mo_init 159 = .ok (.bipush 8, 2) := by decide +kernel
theorem d_Mo_init_161 : decode b_Mo_init 161 = .ok (.newarray .int, 2) := by decide +kernel
theorem d_Mo_init_163 : decode b_Mo_init 163 = .ok (.putfield 49, 3) := by decide +kernel
theorem d_Mo_init_166 : decode b_Mo_init 166 = .ok (.aload_n 0, 1) := by decide +kernel
theorem d_Mo_init_167 : decode b_Mo_init 167 = .ok (.bipush 8, 2) := by decide +kernel
theorem d_Mo_init_169 : decode b_Mo_init 169 = .ok (.newarray .int, 2) := by decide +kernel
theorem d_Mo_init_171 : decode b_Mo_init 171 = .ok (.putfield 52, 3) := by decide +kernel
theorem d_Mo_init_174 : decode b_Mo_init 174 = .ok (.aload_n 0, 1) := by decide +kernel
theorem d_Mo_init_175 : decode b_Mo_init 175 = .ok (.bipush 8, 2) := by decide +kernel
theorem d_Mo_init_177 : decode b_Mo_init 177 = .ok (.newarray .int, 2) := by decide +kernel
theorem d_Mo_init_179 : decode b_Mo_init 179 = .ok (.putfield 55, 3) := by decide +kernel
theorem d_Mo_init_182 : decode b_Mo_init 182 = .ok (.aload_n 0, 1) := by decide +kernel
theorem d_Mo_init_183 : decode b_Mo_init 183 = .ok (.bipush 8, 2) := by decide +kernel
theorem d_Mo_init_185 : decode b_Mo_init 185 = .ok (.newarray .int, 2) := by decide +kernel
theorem d_Mo_init_187 : decode b_Mo_init 187 = .ok (.putfield 58, 3) := by decide +kernel
theorem d_Mo_init_190 : decode b_Mo_init 190 = .ok (.aload_n 0, 1) := by decide +kernel
theorem d_Mo_init_191 : decode b_Mo_init 191 = .ok (.bipush 8, 2) := by decide +kernel
theorem d_Mo_init_193 : decode b_Mo_init 193 = .ok (.newarray .int, 2) := by decide +kernel
theorem d_Mo_init_195 : decode b_Mo_init 195 = .ok (.putfield 61, 3) := by decide +kernel
theorem d_Mo_init_198 : decode b_Mo_init 198 = .ok (.aload_n 0, 1) := by decide +kernel
theorem d_Mo_init_199 : decode b_Mo_init 199 = .ok (.bipush 8, 2) := by decide +kernel
theorem d_Mo_init_201 : decode b_Mo_init 201 = .ok (.newarray .int, 2) := by decide +kernel
theorem d_Mo_init_203 : decode b_Mo_init 203 = .ok (.putfield 64, 3) := by decide +kernel
theorem d_Mo_init_206 : decode b_Mo_init 206 = .ok (.aload_n 0, 1) := by decide +kernel
theorem d_Mo_init_207 : decode b_Mo_init 207 = .ok (.bipush 8, 2) := by decide +kernel
theorem d_Mo_init_209 : decode b_Mo_init 209 = .ok (.newarray .int, 2) := by decide +kernel
theorem d_Mo_init_211 : decode b_Mo_init 211 = .ok (.putfield 67, 3) := by decide +kernel
theorem d_Mo_init_214 : decode b_Mo_init 214 = .ok (.return_, 1) := by decide +kernel
set_option maxHeartbeats 4000000 in
set_option maxRecDepth 100000 in
theorem c_Mo_init (l : Launch) (D : va_G) (tys : List (ClassId × FieldType)) (cI cII cZ : ClassId) (tI tII tZ : Nat) (hI0 : tys[tI]? = some (cI, .int)) (hII0 : tys[tII]? = some (cII, .array .int)) (hZ0 : tys[tZ]? = some (cZ, .boolean)) (H : Heap) (mo : Nat) (hz : H.size = mo + 1) (hP : va_P D kr_cl [(mo, .inr (4, [.null, .null, .null, .null, .null, .null, .null, .null, .null, .null, .null, .null, .null, .null, .null, .null, .null, .int 0, .null, .null]))] H) : Met l y_Mo_init w_Mo_init ({ frames := 1, cells := 31, slots := 240, locals := 12 }) (kq_P [.ref mo] H (kn_MB D tys)) (kq_Q (fun o1 H1 => o1 = none ∧ H1.size = mo + 32 ∧ (∀ q : Nat, q < mo → H1[q]? = H[q]?) ∧ kn_mo D cI cII cZ H1 mo)) 31 240 (fun q => mo ≤ q) := by
  refine Met.ofW (cc := b_Mo_init) (maxL := 1) (ret := none) (by decide) rfl ?_
  intro p e s m args below meth c s₁ B0 hml hv
  obtain ⟨rfl, hH, hK, hOv⟩ := hv
  have hx := B0.exec
  have hb := B0.bytes
  have hret := B0.returns
  have hts := atoms_spec (ws := w_Mo_init) B0.pre
  have hown : s.vm.findClass R_Mo = some m.cls := findClass_of_methodNamed B0.named
  have hlocks := B0.notSynchronized
  rw [hH]
  have hl := lv_entry ([.ref mo]) (n := 1) (Nat.le_of_ble_eq_true rfl)
  rw [lg_entry_eq]
  generalize (lg_sl ([.ref mo]) ++ List.replicate (1 - (lg_sl ([.ref mo])).length) Slot.unset).toArray = ls at hl ⊢
  have hl : lv_has ls 1 [(0, .ref mo)] := hl
  have hcI : s.vm.findClass ("[" ++ FieldType.int.toString) = some cI := (hK.2 tI _ hI0).2
  have hcZ : s.vm.findClass ("[" ++ FieldType.boolean.toString) = some cZ := (hK.2 tZ _ hZ0).2
  have hcII : s.vm.findClass ("[" ++ (FieldType.array .int).toString) = some cII := (hK.2 tII _ hII0).2
  have hTI : ArrOfT s cI .int := (hK.2 tI _ hI0).1
  have hTZ : ArrOfT s cZ .boolean := (hK.2 tZ _ hZ0).1
  have hin : meth.name = "<init>" := (name_of_methodNamed B0.named B0.method).1
  have hlc : ∀ q ∈ ([] : List Loc), mo ≤ q.base := fun q h => by cases h
  have kp : ∀ q : Nat, q < mo → H[q]? = H[q]? := fun _ _ => rfl
  have hC := kn_C.nil H mo
  refine lv_aload_n hx hb d_Mo_init_0 rfl (lv_at hl 0 rfl) ?_
  refine kq_obj hx hb (by rw [hml]; exact hl.1.symm) hts hown kt_w373 (Nat.le_of_ble_eq_true rfl) (Nat.le_of_ble_eq_true rfl) d_Mo_init_1 ?_
  refine lv_aload_n hx hb d_Mo_init_4 rfl (lv_at hl 0 rfl) ?_
  refine lv_iconst (v := nI 4) hx hb d_Mo_init_5 (by decide) ?_
  refine lv_bipush (v := nI 8) hx hb d_Mo_init_6 (by decide) ?_
  refine kq_mna (h := mo + 1) (N' := 4) (K' := 8) hx hb hown (hts _ (List.mem_cons_of_mem _ kt_w374)) (over_moved (Vm.Alike.refl _) hOv) (hts _ (List.mem_cons_of_mem _ kt_w437)) hcII hcI (nI_pos (by decide)) (nI_pos (by decide)) (nI_clamp (by decide)) (nI_clamp (by decide)) (by decide) (by decide) (by decide) rfl rfl (Nat.le_of_ble_eq_true rfl) (Nat.le_of_ble_eq_true rfl) hz d_Mo_init_8 (fun H1 z1 o1 e1 r1 => ?_)
  rw [kn_I0] at r1
  have hC := hC.app (H1 := H1) hz (by rw [hz]; exact kn_five e1 r1) (by rw [hz]; exact o1)
  have hz : H1.size = mo + 6 := z1
  have hP := kn_keep hP (o1 mo (by omega))
  have kp : ∀ q : Nat, q < mo → H1[q]? = H[q]? := fun q hq => (o1 q (by omega)).trans (kp q hq)
  have hP : va_P D kr_cl [(mo, .inr (4, [.null, .null, .null, .null, .null, .null, .null, .null, .null, .null, .null, .null, .null, .null, .null, .null, .null, .int 0, .null, .null]))] H1 := hP
  refine kq_putF hx hb hts kt_F_Mo t_Mo t_Mo_ok n_Mo hown hK hP rfl 0 (by decide) kt_w376 rfl hin rfl (ty := t_Mo 0) (by decide +kernel) rfl rfl (Nat.le_of_ble_eq_true rfl) d_Mo_init_12 (fun H2 L2 hP z2 o2 hL2 => ?_)
  have hC := hC.put o2
  have hz : H2.size = mo + 6 := z2.trans hz
  have kp : ∀ q : Nat, q < mo → H2[q]? = H[q]? := fun q hq => (o2 q (by omega)).trans (kp q hq)
  have hlc := t_lL (free := fun q => mo ≤ q) hlc (fun q h => Nat.le_of_eq (hL2 q h).symm)
  have hP : va_P D kr_cl [(mo, .inr (4, [.ref (mo + 1), .null, .null, .null, .null, .null, .null, .null, .null, .null, .null, .null, .null, .null, .null, .null, .null, .int 0, .null, .null]))] H2 := hP
  refine lv_aload_n hx hb d_Mo_init_15 rfl (lv_at hl 0 rfl) ?_
  refine lv_iconst (v := nI 4) hx hb d_Mo_init_16 (by decide) ?_
  refine lv_bipush (v := nI 8) hx hb d_Mo_init_17 (by decide) ?_
  refine kq_mna (h := mo + 6) (N' := 4) (K' := 8) hx hb hown (hts _ (List.mem_cons_of_mem _ kt_w374)) (over_moved (Vm.Alike.refl _) hOv) (hts _ (List.mem_cons_of_mem _ kt_w437)) hcII hcI (nI_pos (by decide)) (nI_pos (by decide)) (nI_clamp (by decide)) (nI_clamp (by decide)) (by decide) (by decide) (by decide) rfl rfl (Nat.le_of_ble_eq_true rfl) (Nat.le_of_ble_eq_true rfl) hz d_Mo_init_19 (fun H3 z3 o3 e3 r3 => ?_)
  rw [kn_I0] at r3
  have hC := hC.app (H1 := H3) hz (by rw [hz]; exact kn_five e3 r3) (by rw [hz]; exact o3)
  have hz : H3.size = mo + 11 := z3
  have hP := kn_keep hP (o3 mo (by omega))
  have kp : ∀ q : Nat, q < mo → H3[q]? = H[q]? := fun q hq => (o3 q (by omega)).trans (kp q hq)
  have hP : va_P D kr_cl [(mo, .inr (4, [.ref (mo + 1), .null, .null, .null, .null, .null, .null, .null, .null, .null, .null, .null, .null, .null, .null, .null, .null, .int 0, .null, .null]))] H3 := hP
  refine kq_putF hx hb hts kt_F_Mo t_Mo t_Mo_ok n_Mo hown hK hP rfl 1 (by decide) kt_w377 rfl hin rfl (ty := t_Mo 1) (by decide +kernel) rfl rfl (Nat.le_of_ble_eq_true rfl) d_Mo_init_23 (fun H4 L4 hP z4 o4 hL4 => ?_)
  have hC := hC.put o4
  have hz : H4.size = mo + 11 := z4.trans hz
  have kp : ∀ q : Nat, q < mo → H4[q]? = H[q]? := fun q hq => (o4 q (by omega)).trans (kp q hq)
  have hlc := t_lL (free := fun q => mo ≤ q) hlc (fun q h => Nat.le_of_eq (hL4 q h).symm)
  have hP : va_P D kr_cl [(mo, .inr (4, [.ref (mo + 1), .ref (mo + 6), .null, .null, .null, .null, .null, .null, .null, .null, .null, .null, .null, .null, .null, .null, .null, .int 0, .null, .null]))] H4 := hP
  refine lv_aload_n hx hb d_Mo_init_26 rfl (lv_at hl 0 rfl) ?_
  refine lv_iconst (v := nI 4) hx hb d_Mo_init_27 (by decide) ?_
  refine lv_bipush (v := nI 8) hx hb d_Mo_init_28 (by decide) ?_
  refine kq_mna (h := mo + 11) (N' := 4) (K' := 8) hx hb hown (hts _ (List.mem_cons_of_mem _ kt_w374)) (over_moved (Vm.Alike.refl _) hOv) (hts _ (List.mem_cons_of_mem _ kt_w437)) hcII hcI (nI_pos (by decide)) (nI_pos (by decide)) (nI_clamp (by decide)) (nI_clamp (by decide)) (by decide) (by decide) (by decide) rfl rfl (Nat.le_of_ble_eq_true rfl) (Nat.le_of_ble_eq_true rfl) hz d_Mo_init_30 (fun H5 z5 o5 e5 r5 => ?_)
  rw [kn_I0] at r5
  have hC := hC.app (H1 := H5) hz (by rw [hz]; exact kn_five e5 r5) (by rw [hz]; exact o5)
  have hz : H5.size = mo + 16 := z5
  have hP := kn_keep hP (o5 mo (by omega))
  have kp : ∀ q : Nat, q < mo → H5[q]? = H[q]? := fun q hq => (o5 q (by omega)).trans (kp q hq)
  have hP : va_P D kr_cl [(mo, .inr (4, [.ref (mo + 1), .ref (mo + 6), .null, .null, .null, .null, .null, .null, .null, .null, .null, .null, .null, .null, .null, .null, .null, .int 0, .null, .null]))] H5 := hP
  refine kq_putF hx hb hts kt_F_Mo t_Mo t_Mo_ok n_Mo hown hK hP rfl 2 (by decide) kt_w378 rfl hin rfl (ty := t_Mo 2) (by decide +kernel) rfl rfl (Nat.le_of_ble_eq_true rfl) d_Mo_init_34 (fun H6 L6 hP z6 o6 hL6 => ?_)
  have hC := hC.put o6
  have hz : H6.size = mo + 16 := z6.trans hz
  have kp : ∀ q : Nat, q < mo → H6[q]? = H[q]? := fun q hq => (o6 q (by omega)).trans (kp q hq)
  have hlc := t_lL (free := fun q => mo ≤ q) hlc (fun q h => Nat.le_of_eq (hL6 q h).symm)
  have hP : va_P D kr_cl [(mo, .inr (4, [.ref (mo + 1), .ref (mo + 6), .ref (mo + 11), .null, .null, .null, .null, .null, .null, .null, .null, .null, .null, .null, .null, .null, .null, .int 0, .null, .null]))] H6 := hP
  refine lv_aload_n hx hb d_Mo_init_37 rfl (lv_at hl 0 rfl) ?_
  refine lv_iconst (v := nI 4) hx hb d_Mo_init_38 (by decide) ?_
  refine kq_newa (h := mo + 16) hx hb (hts _ (List.mem_cons_of_mem _ kt_w438)) rfl hcZ (nI_pos (by decide)) (nI_clamp (by decide)) (by decide) (Nat.le_of_ble_eq_true rfl) (Nat.le_of_ble_eq_true rfl) hz d_Mo_init_39 (fun H7 e7 z7 o7 => ?_)
  rw [kn_Z0] at e7
  have hC := hC.push (H1 := H7) (x := kq_B cZ (fun _ => false)) hz (by rw [hz]; exact e7) (by rw [hz]; exact o7)
  have hz : H7.size = mo + 17 := z7
  have hP := kn_keep hP (o7 mo (by omega))
  have kp : ∀ q : Nat, q < mo → H7[q]? = H[q]? := fun q hq => (o7 q (by omega)).trans (kp q hq)
  have hP : va_P D kr_cl [(mo, .inr (4, [.ref (mo + 1), .ref (mo + 6), .ref (mo + 11), .null, .null, .null, .null, .null, .null, .null, .null, .null, .null, .null, .null, .null, .null, .int 0, .null, .null]))] H7 := hP
  have eB := e7
  refine lv_dup hx hb d_Mo_init_41 rfl ?_
  refine lv_iconst (v := nI 0) hx hb d_Mo_init_42 (by decide) ?_
  refine lv_iconst (v := nI 1) hx hb d_Mo_init_43 (by decide) ?_
  refine kq_ri (show nI 1 = kq_z true from rfl) ?_
  refine kq_zast hx hb hTZ eB (j := 0) (by decide) d_Mo_init_44 (fun H8 eB z8 o8 => ?_)
  have hC := hC.set (j := 15) eB o8
  have hz : H8.size = mo + 17 := z8.trans hz
  have hP := kn_keep hP (o8 mo (by omega))
  have kp : ∀ q : Nat, q < mo → H8[q]? = H[q]? := fun q hq => (o8 q (by omega)).trans (kp q hq)
  have hlc := t_lc (free := fun q => mo ≤ q) (a := mo + 16) (i := 0) hlc (by omega)
  refine lv_dup hx hb d_Mo_init_45 rfl ?_
  refine lv_iconst (v := nI 1) hx hb d_Mo_init_46 (by decide) ?_
  refine lv_iconst (v := nI 1) hx hb d_Mo_init_47 (by decide) ?_
  refine kq_ri (show nI 1 = kq_z true from rfl) ?_
  refine kq_zast hx hb hTZ eB (j := 1) (by decide) d_Mo_init_48 (fun H9 eB z9 o9 => ?_)
  have hC := hC.set (j := 15) eB o9
  have hz : H9.size = mo + 17 := z9.trans hz
  have hP := kn_keep hP (o9 mo (by omega))
  have kp : ∀ q : Nat, q < mo → H9[q]? = H[q]? := fun q hq => (o9 q (by omega)).trans (kp q hq)
  have hlc := t_lc (free := fun q => mo ≤ q) (a := mo + 16) (i := 1) hlc (by omega)
  refine lv_dup hx hb d_Mo_init_49 rfl ?_
  refine lv_iconst (v := nI 2) hx hb d_Mo_init_50 (by decide) ?_
  refine lv_iconst (v := nI 1) hx hb d_Mo_init_51 (by decide) ?_
  refine kq_ri (show nI 1 = kq_z true from rfl) ?_
  refine kq_zast hx hb hTZ eB (j := 2) (by decide) d_Mo_init_52 (fun H10 eB z10 o10 => ?_)
  have hC := hC.set (j := 15) eB o10
  have hz : H10.size = mo + 17 := z10.trans hz
  have hP := kn_keep hP (o10 mo (by omega))
  have kp : ∀ q : Nat, q < mo → H10[q]? = H[q]? := fun q hq => (o10 q (by omega)).trans (kp q hq)
  have hlc := t_lc (free := fun q => mo ≤ q) (a := mo + 16) (i := 2) hlc (by omega)
  refine lv_dup hx hb d_Mo_init_53 rfl ?_
  refine lv_iconst (v := nI 3) hx hb d_Mo_init_54 (by decide) ?_
  refine lv_iconst (v := nI 1) hx hb d_Mo_init_55 (by decide) ?_
  refine kq_ri (show nI 1 = kq_z true from rfl) ?_
  refine kq_zast hx hb hTZ eB (j := 3) (by decide) d_Mo_init_56 (fun H11 eB z11 o11 => ?_)
  have hC := hC.set (j := 15) eB o11
  have hz : H11.size = mo + 17 := z11.trans hz
  have hP := kn_keep hP (o11 mo (by omega))
  have kp : ∀ q : Nat, q < mo → H11[q]? = H[q]? := fun q hq => (o11 q (by omega)).trans (kp q hq)
  have hlc := t_lc (free := fun q => mo ≤ q) (a := mo + 16) (i := 3) hlc (by omega)
  refine kq_putF hx hb hts kt_F_Mo t_Mo t_Mo_ok n_Mo hown hK hP rfl 3 (by decide) kt_w379 rfl hin rfl (ty := t_Mo 3) (by decide +kernel) rfl rfl (Nat.le_of_ble_eq_true rfl) d_Mo_init_57 (fun H12 L12 hP z12 o12 hL12 => ?_)
  have hC := hC.put o12
  have hz : H12.size = mo + 17 := z12.trans hz
  have kp : ∀ q : Nat, q < mo → H12[q]? = H[q]? := fun q hq => (o12 q (by omega)).trans (kp q hq)
  have hlc := t_lL (free := fun q => mo ≤ q) hlc (fun q h => Nat.le_of_eq (hL12 q h).symm)
  have hP : va_P D kr_cl [(mo, .inr (4, [.ref (mo + 1), .ref (mo + 6), .ref (mo + 11), .ref (mo + 16), .null, .null, .null, .null, .null, .null, .null, .null, .null, .null, .null, .null, .null, .int 0, .null, .null]))] H12 := hP
  refine lv_aload_n hx hb d_Mo_init_60 rfl (lv_at hl 0 rfl) ?_
  refine lv_bipush (v := nI 8) hx hb d_Mo_init_61 (by decide) ?_
  refine kq_newa (h := mo + 17) hx hb (hts _ (List.mem_cons_of_mem _ kt_w437)) rfl hcI (nI_pos (by decide)) (nI_clamp (by decide)) (by decide) (Nat.le_of_ble_eq_true rfl) (Nat.le_of_ble_eq_true rfl) hz d_Mo_init_63 (fun H13 e13 z13 o13 => ?_)
  rw [kn_I0] at e13
  have hC := hC.push (H1 := H13) (x := kq_I cI 8 0) hz (by rw [hz]; exact e13) (by rw [hz]; exact o13)
  have hz : H13.size = mo + 18 := z13
  have hP := kn_keep hP (o13 mo (by omega))
  have kp : ∀ q : Nat, q < mo → H13[q]? = H[q]? := fun q hq => (o13 q (by omega)).trans (kp q hq)
  have hP : va_P D kr_cl [(mo, .inr (4, [.ref (mo + 1), .ref (mo + 6), .ref (mo + 11), .ref (mo + 16), .null, .null, .null, .null, .null, .null, .null, .null, .null, .null, .null, .null, .null, .int 0, .null, .null]))] H13 := hP
  have eO : H13[mo + 17]? = some (kq_I cI 8 0) := hC 16 _ rfl
  refine lv_dup hx hb d_Mo_init_65 rfl ?_
  refine lv_iconst (v := nI 0) hx hb d_Mo_init_66 (by decide) ?_
  refine lv_iconst (v := nI 1) hx hb d_Mo_init_67 (by decide) ?_
  refine kq_iast hx hb (hTI) (eO) ((by decide)) (by decide) ((by decide)) d_Mo_init_68 ?_
  rw [kn_one0]
  obtain ⟨H14, hH14⟩ : ∃ X, X = kq_set H13 (mo + 17) (kq_I cI 8 1) := ⟨_, rfl⟩
  rw [← hH14]
  have eP := eO
  have eO : H14[mo + 17]? = some (kq_I cI 8 1) := by rw [hH14]; exact kq_set_at eP
  have o14 : ∀ q : Nat, q ≠ mo + 17 → H14[q]? = H13[q]? := fun q hq => by rw [hH14]; exact kq_set_ne hq
  have hC := hC.set (j := 16) eO o14
  have hz : H14.size = mo + 18 := by rw [hH14, kq_set_size]; exact hz
  have hP := kn_keep hP (o14 mo (by omega))
  have kp : ∀ q : Nat, q < mo → H14[q]? = H[q]? := fun q hq => (o14 q (by omega)).trans (kp q hq)
  have hlc := t_lc (free := fun q => mo ≤ q) (a := mo + 17) (i := 0) hlc (by omega)
  refine lv_dup hx hb d_Mo_init_69 rfl ?_
  refine lv_iconst (v := nI 1) hx hb d_Mo_init_70 (by decide) ?_
  refine lv_iconst (v := nI 0) hx hb d_Mo_init_71 (by decide) ?_
  refine kq_iast hx hb (hTI) (eO) ((by decide)) (by decide) ((by decide)) d_Mo_init_72 ?_
  rw [kn_one 1 (by decide) (by decide)]
  obtain ⟨H15, hH15⟩ : ∃ X, X = kq_set H14 (mo + 17) (kq_I cI 8 1) := ⟨_, rfl⟩
  rw [← hH15]
  have eP := eO
  have eO : H15[mo + 17]? = some (kq_I cI 8 1) := by rw [hH15]; exact kq_set_at eP
  have o15 : ∀ q : Nat, q ≠ mo + 17 → H15[q]? = H14[q]? := fun q hq => by rw [hH15]; exact kq_set_ne hq
  have hC := hC.set (j := 16) eO o15
  have hz : H15.size = mo + 18 := by rw [hH15, kq_set_size]; exact hz
  have hP := kn_keep hP (o15 mo (by omega))
  have kp : ∀ q : Nat, q < mo → H15[q]? = H[q]? := fun q hq => (o15 q (by omega)).trans (kp q hq)
  have hlc := t_lc (free := fun q => mo ≤ q) (a := mo + 17) (i := 1) hlc (by omega)
  refine lv_dup hx hb d_Mo_init_73 rfl ?_
  refine lv_iconst (v := nI 2) hx hb d_Mo_init_74 (by decide) ?_
  refine lv_iconst (v := nI 0) hx hb d_Mo_init_75 (by decide) ?_
  refine kq_iast hx hb (hTI) (eO) ((by decide)) (by decide) ((by decide)) d_Mo_init_76 ?_
  rw [kn_one 2 (by decide) (by decide)]
  obtain ⟨H16, hH16⟩ : ∃ X, X = kq_set H15 (mo + 17) (kq_I cI 8 1) := ⟨_, rfl⟩
  rw [← hH16]
  have eP := eO
  have eO : H16[mo + 17]? = some (kq_I cI 8 1) := by rw [hH16]; exact kq_set_at eP
  have o16 : ∀ q : Nat, q ≠ mo + 17 → H16[q]? = H15[q]? := fun q hq => by rw [hH16]; exact kq_set_ne hq
  have hC := hC.set (j := 16) eO o16
  have hz : H16.size = mo + 18 := by rw [hH16, kq_set_size]; exact hz
  have hP := kn_keep hP (o16 mo (by omega))
  have kp : ∀ q : Nat, q < mo → H16[q]? = H[q]? := fun q hq => (o16 q (by omega)).trans (kp q hq)
  have hlc := t_lc (free := fun q => mo ≤ q) (a := mo + 17) (i := 2) hlc (by omega)
  refine lv_dup hx hb d_Mo_init_77 rfl ?_
  refine lv_iconst (v := nI 3) hx hb d_Mo_init_78 (by decide) ?_
  refine lv_iconst (v := nI 0) hx hb d_Mo_init_79 (by decide) ?_
  refine kq_iast hx hb (hTI) (eO) ((by decide)) (by decide) ((by decide)) d_Mo_init_80 ?_
  rw [kn_one 3 (by decide) (by decide)]
  obtain ⟨H17, hH17⟩ : ∃ X, X = kq_set H16 (mo + 17) (kq_I cI 8 1) := ⟨_, rfl⟩
  rw [← hH17]
  have eP := eO
  have eO : H17[mo + 17]? = some (kq_I cI 8 1) := by rw [hH17]; exact kq_set_at eP
  have o17 : ∀ q : Nat, q ≠ mo + 17 → H17[q]? = H16[q]? := fun q hq => by rw [hH17]; exact kq_set_ne hq
  have hC := hC.set (j := 16) eO o17
  have hz : H17.size = mo + 18 := by rw [hH17, kq_set_size]; exact hz
  have hP := kn_keep hP (o17 mo (by omega))
  have kp : ∀ q : Nat, q < mo → H17[q]? = H[q]? := fun q hq => (o17 q (by omega)).trans (kp q hq)
  have hlc := t_lc (free := fun q => mo ≤ q) (a := mo + 17) (i := 3) hlc (by omega)
  refine lv_dup hx hb d_Mo_init_81 rfl ?_
  refine lv_iconst (v := nI 4) hx hb d_Mo_init_82 (by decide) ?_
  refine lv_iconst (v := nI 0) hx hb d_Mo_init_83 (by decide) ?_
  refine kq_iast hx hb (hTI) (eO) ((by decide)) (by decide) ((by decide)) d_Mo_init_84 ?_
  rw [kn_one 4 (by decide) (by decide)]
  obtain ⟨H18, hH18⟩ : ∃ X, X = kq_set H17 (mo + 17) (kq_I cI 8 1) := ⟨_, rfl⟩
  rw [← hH18]
  have eP := eO
  have eO : H18[mo + 17]? = some (kq_I cI 8 1) := by rw [hH18]; exact kq_set_at eP
  have o18 : ∀ q : Nat, q ≠ mo + 17 → H18[q]? = H17[q]? := fun q hq => by rw [hH18]; exact kq_set_ne hq
  have hC := hC.set (j := 16) eO o18
  have hz : H18.size = mo + 18 := by rw [hH18, kq_set_size]; exact hz
  have hP := kn_keep hP (o18 mo (by omega))
  have kp : ∀ q : Nat, q < mo → H18[q]? = H[q]? := fun q hq => (o18 q (by omega)).trans (kp q hq)
  have hlc := t_lc (free := fun q => mo ≤ q) (a := mo + 17) (i := 4) hlc (by omega)
  refine lv_dup hx hb d_Mo_init_85 rfl ?_
  refine lv_iconst (v := nI 5) hx hb d_Mo_init_86 (by decide) ?_
  refine lv_iconst (v := nI 0) hx hb d_Mo_init_87 (by decide) ?_
  refine kq_iast hx hb (hTI) (eO) ((by decide)) (by decide) ((by decide)) d_Mo_init_88 ?_
  rw [kn_one 5 (by decide) (by decide)]
  obtain ⟨H19, hH19⟩ : ∃ X, X = kq_set H18 (mo + 17) (kq_I cI 8 1) := ⟨_, rfl⟩
  rw [← hH19]
  have eP := eO
  have eO : H19[mo + 17]? = some (kq_I cI 8 1) := by rw [hH19]; exact kq_set_at eP
  have o19 : ∀ q : Nat, q ≠ mo + 17 → H19[q]? = H18[q]? := fun q hq => by rw [hH19]; exact kq_set_ne hq
  have hC := hC.set (j := 16) eO o19
  have hz : H19.size = mo + 18 := by rw [hH19, kq_set_size]; exact hz
  have hP := kn_keep hP (o19 mo (by omega))
  have kp : ∀ q : Nat, q < mo → H19[q]? = H[q]? := fun q hq => (o19 q (by omega)).trans (kp q hq)
  have hlc := t_lc (free := fun q => mo ≤ q) (a := mo + 17) (i := 5) hlc (by omega)
  refine lv_dup hx hb d_Mo_init_89 rfl ?_
  refine lv_bipush (v := nI 6) hx hb d_Mo_init_90 (by decide) ?_
  refine lv_iconst (v := nI 0) hx hb d_Mo_init_92 (by decide) ?_
  refine kq_iast hx hb (hTI) (eO) ((by decide)) (by decide) ((by decide)) d_Mo_init_93 ?_
  rw [kn_one 6 (by decide) (by decide)]
  obtain ⟨H20, hH20⟩ : ∃ X, X = kq_set H19 (mo + 17) (kq_I cI 8 1) := ⟨_, rfl⟩
  rw [← hH20]
  have eP := eO
  have eO : H20[mo + 17]? = some (kq_I cI 8 1) := by rw [hH20]; exact kq_set_at eP
  have o20 : ∀ q : Nat, q ≠ mo + 17 → H20[q]? = H19[q]? := fun q hq => by rw [hH20]; exact kq_set_ne hq
  have hC := hC.set (j := 16) eO o20
  have hz : H20.size = mo + 18 := by rw [hH20, kq_set_size]; exact hz
  have hP := kn_keep hP (o20 mo (by omega))
  have kp : ∀ q : Nat, q < mo → H20[q]? = H[q]? := fun q hq => (o20 q (by omega)).trans (kp q hq)
  have hlc := t_lc (free := fun q => mo ≤ q) (a := mo + 17) (i := 6) hlc (by omega)
  refine lv_dup hx hb d_Mo_init_94 rfl ?_
  refine lv_bipush (v := nI 7) hx hb d_Mo_init_95 (by decide) ?_
  refine lv_iconst (v := nI 0) hx hb d_Mo_init_97 (by decide) ?_
  refine kq_iast hx hb (hTI) (eO) ((by decide)) (by decide) ((by decide)) d_Mo_init_98 ?_
  rw [kn_one 7 (by decide) (by decide)]
  obtain ⟨H21, hH21⟩ : ∃ X, X = kq_set H20 (mo + 17) (kq_I cI 8 1) := ⟨_, rfl⟩
  rw [← hH21]
  have eP := eO
  have eO : H21[mo + 17]? = some (kq_I cI 8 1) := by rw [hH21]; exact kq_set_at eP
  have o21 : ∀ q : Nat, q ≠ mo + 17 → H21[q]? = H20[q]? := fun q hq => by rw [hH21]; exact kq_set_ne hq
  have hC := hC.set (j := 16) eO o21
  have hz : H21.size = mo + 18 := by rw [hH21, kq_set_size]; exact hz
  have hP := kn_keep hP (o21 mo (by omega))
  have kp : ∀ q : Nat, q < mo → H21[q]? = H[q]? := fun q hq => (o21 q (by omega)).trans (kp q hq)
  have hlc := t_lc (free := fun q => mo ≤ q) (a := mo + 17) (i := 7) hlc (by omega)
  refine kq_putF hx hb hts kt_F_Mo t_Mo t_Mo_ok n_Mo hown hK hP rfl 4 (by decide) kt_w380 rfl hin rfl (ty := t_Mo 4) (by decide +kernel) rfl rfl (Nat.le_of_ble_eq_true rfl) d_Mo_init_99 (fun H22 L22 hP z22 o22 hL22 => ?_)
  have hC := hC.put o22
  have hz : H22.size = mo + 18 := z22.trans hz
  have kp : ∀ q : Nat, q < mo → H22[q]? = H[q]? := fun q hq => (o22 q (by omega)).trans (kp q hq)
  have hlc := t_lL (free := fun q => mo ≤ q) hlc (fun q h => Nat.le_of_eq (hL22 q h).symm)
  have hP : va_P D kr_cl [(mo, .inr (4, [.ref (mo + 1), .ref (mo + 6), .ref (mo + 11), .ref (mo + 16), .ref (mo + 17), .null, .null, .null, .null, .null, .null, .null, .null, .null, .null, .null, .null, .int 0, .null, .null]))] H22 := hP
  refine lv_aload_n hx hb d_Mo_init_102 rfl (lv_at hl 0 rfl) ?_
  refine lv_bipush (v := nI 8) hx hb d_Mo_init_103 (by decide) ?_
  refine kq_newa (h := mo + 18) hx hb (hts _ (List.mem_cons_of_mem _ kt_w437)) rfl hcI (nI_pos (by decide)) (nI_clamp (by decide)) (by decide) (Nat.le_of_ble_eq_true rfl) (Nat.le_of_ble_eq_true rfl) hz d_Mo_init_105 (fun H23 e23 z23 o23 => ?_)
  rw [kn_I0] at e23
  have hC := hC.push (H1 := H23) (x := kq_I cI 8 0) hz (by rw [hz]; exact e23) (by rw [hz]; exact o23)
  have hz : H23.size = mo + 19 := z23
  have hP := kn_keep hP (o23 mo (by omega))
  have kp : ∀ q : Nat, q < mo → H23[q]? = H[q]? := fun q hq => (o23 q (by omega)).trans (kp q hq)
  have hP : va_P D kr_cl [(mo, .inr (4, [.ref (mo + 1), .ref (mo + 6), .ref (mo + 11), .ref (mo + 16), .ref (mo + 17), .null, .null, .null, .null, .null, .null, .null, .null, .null, .null, .null, .null, .int 0, .null, .null]))] H23 := hP
  refine kq_putF hx hb hts kt_F_Mo t_Mo t_Mo_ok n_Mo hown hK hP rfl 5 (by decide) kt_w381 rfl hin rfl (ty := t_Mo 5) (by decide +kernel) rfl rfl (Nat.le_of_ble_eq_true rfl) d_Mo_init_107 (fun H24 L24 hP z24 o24 hL24 => ?_)
  have hC := hC.put o24
  have hz : H24.size = mo + 19 := z24.trans hz
  have kp : ∀ q : Nat, q < mo → H24[q]? = H[q]? := fun q hq => (o24 q (by omega)).trans (kp q hq)
  have hlc := t_lL (free := fun q => mo ≤ q) hlc (fun q h => Nat.le_of_eq (hL24 q h).symm)
  have hP : va_P D kr_cl [(mo, .inr (4, [.ref (mo + 1), .ref (mo + 6), .ref (mo + 11), .ref (mo + 16), .ref (mo + 17), .ref (mo + 18), .null, .null, .null, .null, .null, .null, .null, .null, .null, .null, .null, .int 0, .null, .null]))] H24 := hP
  refine lv_aload_n hx hb d_Mo_init_110 rfl (lv_at hl 0 rfl) ?_
  refine lv_bipush (v := nI 8) hx hb d_Mo_init_111 (by decide) ?_
  refine kq_newa (h := mo + 19) hx hb (hts _ (List.mem_cons_of_mem _ kt_w437)) rfl hcI (nI_pos (by decide)) (nI_clamp (by decide)) (by decide) (Nat.le_of_ble_eq_true rfl) (Nat.le_of_ble_eq_true rfl) hz d_Mo_init_113 (fun H25 e25 z25 o25 => ?_)
  rw [kn_I0] at e25
  have hC := hC.push (H1 := H25) (x := kq_I cI 8 0) hz (by rw [hz]; exact e25) (by rw [hz]; exact o25)
  have hz : H25.size = mo + 20 := z25
  have hP := kn_keep hP (o25 mo (by omega))
  have kp : ∀ q : Nat, q < mo → H25[q]? = H[q]? := fun q hq => (o25 q (by omega)).trans (kp q hq)
  have hP : va_P D kr_cl [(mo, .inr (4, [.ref (mo + 1), .ref (mo + 6), .ref (mo + 11), .ref (mo + 16), .ref (mo + 17), .ref (mo + 18), .null, .null, .null, .null, .null, .null, .null, .null, .null, .null, .null, .int 0, .null, .null]))] H25 := hP
  refine kq_putF hx hb hts kt_F_Mo t_Mo t_Mo_ok n_Mo hown hK hP rfl 6 (by decide) kt_w382 rfl hin rfl (ty := t_Mo 6) (by decide +kernel) rfl rfl (Nat.le_of_ble_eq_true rfl) d_Mo_init_115 (fun H26 L26 hP z26 o26 hL26 => ?_)
  have hC := hC.put o26
  have hz : H26.size = mo + 20 := z26.trans hz
  have kp : ∀ q : Nat, q < mo → H26[q]? = H[q]? := fun q hq => (o26 q (by omega)).trans (kp q hq)
  have hlc := t_lL (free := fun q => mo ≤ q) hlc (fun q h => Nat.le_of_eq (hL26 q h).symm)
  have hP : va_P D kr_cl [(mo, .inr (4, [.ref (mo + 1), .ref (mo + 6), .ref (mo + 11), .ref (mo + 16), .ref (mo + 17), .ref (mo + 18), .ref (mo + 19), .null, .null, .null, .null, .null, .null, .null, .null, .null, .null, .int 0, .null, .null]))] H26 := hP
  refine lv_aload_n hx hb d_Mo_init_118 rfl (lv_at hl 0 rfl) ?_
  refine lv_bipush (v := nI 8) hx hb d_Mo_init_119 (by decide) ?_
  refine kq_newa (h := mo + 20) hx hb (hts _ (List.mem_cons_of_mem _ kt_w437)) rfl hcI (nI_pos (by decide)) (nI_clamp (by decide)) (by decide) (Nat.le_of_ble_eq_true rfl) (Nat.le_of_ble_eq_true rfl) hz d_Mo_init_121 (fun H27 e27 z27 o27 => ?_)
  rw [kn_I0] at e27
  have hC := hC.push (H1 := H27) (x := kq_I cI 8 0) hz (by rw [hz]; exact e27) (by rw [hz]; exact o27)
  have hz : H27.size = mo + 21 := z27
  have hP := kn_keep hP (o27 mo (by omega))
  have kp : ∀ q : Nat, q < mo → H27[q]? = H[q]? := fun q hq => (o27 q (by omega)).trans (kp q hq)
  have hP : va_P D kr_cl [(mo, .inr (4, [.ref (mo + 1), .ref (mo + 6), .ref (mo + 11), .ref (mo + 16), .ref (mo + 17), .ref (mo + 18), .ref (mo + 19), .null, .null, .null, .null, .null, .null, .null, .null, .null, .null, .int 0, .null, .null]))] H27 := hP
  refine kq_putF hx hb hts kt_F_Mo t_Mo t_Mo_ok n_Mo hown hK hP rfl 7 (by decide) kt_w383 rfl hin rfl (ty := t_Mo 7) (by decide +kernel) rfl rfl (Nat.le_of_ble_eq_true rfl) d_Mo_init_123 (fun H28 L28 hP z28 o28 hL28 => ?_)
  have hC := hC.put o28
  have hz : H28.size = mo + 21 := z28.trans hz
  have kp : ∀ q : Nat, q < mo → H28[q]? = H[q]? := fun q hq => (o28 q (by omega)).trans (kp q hq)
  have hlc := t_lL (free := fun q => mo ≤ q) hlc (fun q h => Nat.le_of_eq (hL28 q h).symm)
  have hP : va_P D kr_cl [(mo, .inr (4, [.ref (mo + 1), .ref (mo + 6), .ref (mo + 11), .ref (mo + 16), .ref (mo + 17), .ref (mo + 18), .ref (mo + 19), .ref (mo + 20), .null, .null, .null, .null, .null, .null, .null, .null, .null, .int 0, .null, .null]))] H28 := hP
  refine lv_aload_n hx hb d_Mo_init_126 rfl (lv_at hl 0 rfl) ?_
  refine lv_bipush (v := nI 16) hx hb d_Mo_init_127 (by decide) ?_
  refine kq_newa (h := mo + 21) hx hb (hts _ (List.mem_cons_of_mem _ kt_w437)) rfl hcI (nI_pos (by decide)) (nI_clamp (by decide)) (by decide) (Nat.le_of_ble_eq_true rfl) (Nat.le_of_ble_eq_true rfl) hz d_Mo_init_129 (fun H29 e29 z29 o29 => ?_)
  rw [kn_I0] at e29
  have hC := hC.push (H1 := H29) (x := kq_I cI 16 0) hz (by rw [hz]; exact e29) (by rw [hz]; exact o29)
  have hz : H29.size = mo + 22 := z29
  have hP := kn_keep hP (o29 mo (by omega))
  have kp : ∀ q : Nat, q < mo → H29[q]? = H[q]? := fun q hq => (o29 q (by omega)).trans (kp q hq)
  have hP : va_P D kr_cl [(mo, .inr (4, [.ref (mo + 1), .ref (mo + 6), .ref (mo + 11), .ref (mo + 16), .ref (mo + 17), .ref (mo + 18), .ref (mo + 19), .ref (mo + 20), .null, .null, .null, .null, .null, .null, .null, .null, .null, .int 0, .null, .null]))] H29 := hP
  refine kq_putF hx hb hts kt_F_Mo t_Mo t_Mo_ok n_Mo hown hK hP rfl 8 (by decide) kt_w384 rfl hin rfl (ty := t_Mo 8) (by decide +kernel) rfl rfl (Nat.le_of_ble_eq_true rfl) d_Mo_init_131 (fun H30 L30 hP z30 o30 hL30 => ?_)
  have hC := hC.put o30
  have hz : H30.size = mo + 22 := z30.trans hz
  have kp : ∀ q : Nat, q < mo → H30[q]? = H[q]? := fun q hq => (o30 q (by omega)).trans (kp q hq)
  have hlc := t_lL (free := fun q => mo ≤ q) hlc (fun q h => Nat.le_of_eq (hL30 q h).symm)
  have hP : va_P D kr_cl [(mo, .inr (4, [.ref (mo + 1), .ref (mo + 6), .ref (mo + 11), .ref (mo + 16), .ref (mo + 17), .ref (mo + 18), .ref (mo + 19), .ref (mo + 20), .ref (mo + 21), .null, .null, .null, .null, .null, .null, .null, .null, .int 0, .null, .null]))] H30 := hP
  refine lv_aload_n hx hb d_Mo_init_134 rfl (lv_at hl 0 rfl) ?_
  refine lv_bipush (v := nI 8) hx hb d_Mo_init_135 (by decide) ?_
  refine kq_newa (h := mo + 22) hx hb (hts _ (List.mem_cons_of_mem _ kt_w437)) rfl hcI (nI_pos (by decide)) (nI_clamp (by decide)) (by decide) (Nat.le_of_ble_eq_true rfl) (Nat.le_of_ble_eq_true rfl) hz d_Mo_init_137 (fun H31 e31 z31 o31 => ?_)
  rw [kn_I0] at e31
  have hC := hC.push (H1 := H31) (x := kq_I cI 8 0) hz (by rw [hz]; exact e31) (by rw [hz]; exact o31)
  have hz : H31.size = mo + 23 := z31
  have hP := kn_keep hP (o31 mo (by omega))
  have kp : ∀ q : Nat, q < mo → H31[q]? = H[q]? := fun q hq => (o31 q (by omega)).trans (kp q hq)
  have hP : va_P D kr_cl [(mo, .inr (4, [.ref (mo + 1), .ref (mo + 6), .ref (mo + 11), .ref (mo + 16), .ref (mo + 17), .ref (mo + 18), .ref (mo + 19), .ref (mo + 20), .ref (mo + 21), .null, .null, .null, .null, .null, .null, .null, .null, .int 0, .null, .null]))] H31 := hP
  refine kq_putF hx hb hts kt_F_Mo t_Mo t_Mo_ok n_Mo hown hK hP rfl 9 (by decide) kt_w385 rfl hin rfl (ty := t_Mo 9) (by decide +kernel) rfl rfl (Nat.le_of_ble_eq_true rfl) d_Mo_init_139 (fun H32 L32 hP z32 o32 hL32 => ?_)
  have hC := hC.put o32
  have hz : H32.size = mo + 23 := z32.trans hz
  have kp : ∀ q : Nat, q < mo → H32[q]? = H[q]? := fun q hq => (o32 q (by omega)).trans (kp q hq)
  have hlc := t_lL (free := fun q => mo ≤ q) hlc (fun q h => Nat.le_of_eq (hL32 q h).symm)
  have hP : va_P D kr_cl [(mo, .inr (4, [.ref (mo + 1), .ref (mo + 6), .ref (mo + 11), .ref (mo + 16), .ref (mo + 17), .ref (mo + 18), .ref (mo + 19), .ref (mo + 20), .ref (mo + 21), .ref (mo + 22), .null, .null, .null, .null, .null, .null, .null, .int 0, .null, .null]))] H32 := hP
  refine lv_aload_n hx hb d_Mo_init_142 rfl (lv_at hl 0 rfl) ?_
  refine lv_bipush (v := nI 8) hx hb d_Mo_init_143 (by decide) ?_
  refine kq_newa (h := mo + 23) hx hb (hts _ (List.mem_cons_of_mem _ kt_w437)) rfl hcI (nI_pos (by decide)) (nI_clamp (by decide)) (by decide) (Nat.le_of_ble_eq_true rfl) (Nat.le_of_ble_eq_true rfl) hz d_Mo_init_145 (fun H33 e33 z33 o33 => ?_)
  rw [kn_I0] at e33
  have hC := hC.push (H1 := H33) (x := kq_I cI 8 0) hz (by rw [hz]; exact e33) (by rw [hz]; exact o33)
  have hz : H33.size = mo + 24 := z33
  have hP := kn_keep hP (o33 mo (by omega))
  have kp : ∀ q : Nat, q < mo → H33[q]? = H[q]? := fun q hq => (o33 q (by omega)).trans (kp q hq)
  have hP : va_P D kr_cl [(mo, .inr (4, [.ref (mo + 1), .ref (mo + 6), .ref (mo + 11), .ref (mo + 16), .ref (mo + 17), .ref (mo + 18), .ref (mo + 19), .ref (mo + 20), .ref (mo + 21), .ref (mo + 22), .null, .null, .null, .null, .null, .null, .null, .int 0, .null, .null]))] H33 := hP
  refine kq_putF hx hb hts kt_F_Mo t_Mo t_Mo_ok n_Mo hown hK hP rfl 10 (by decide) kt_w386 rfl hin rfl (ty := t_Mo 10) (by decide +kernel) rfl rfl (Nat.le_of_ble_eq_true rfl) d_Mo_init_147 (fun H34 L34 hP z34 o34 hL34 => ?_)
  have hC := hC.put o34
  have hz : H34.size = mo + 24 := z34.trans hz
  have kp : ∀ q : Nat, q < mo → H34[q]? = H[q]? := fun q hq => (o34 q (by omega)).trans (kp q hq)
  have hlc := t_lL (free := fun q => mo ≤ q) hlc (fun q h => Nat.le_of_eq (hL34 q h).symm)
  have hP : va_P D kr_cl [(mo, .inr (4, [.ref (mo + 1), .ref (mo + 6), .ref (mo + 11), .ref (mo + 16), .ref (mo + 17), .ref (mo + 18), .ref (mo + 19), .ref (mo + 20), .ref (mo + 21), .ref (mo + 22), .ref (mo + 23), .null, .null, .null, .null, .null, .null, .int 0, .null, .null]))] H34 := hP
  refine lv_aload_n hx hb d_Mo_init_150 rfl (lv_at hl 0 rfl) ?_
  refine lv_bipush (v := nI 8) hx hb d_Mo_init_151 (by decide) ?_
  refine kq_newa (h := mo + 24) hx hb (hts _ (List.mem_cons_of_mem _ kt_w437)) rfl hcI (nI_pos (by decide)) (nI_clamp (by decide)) (by decide) (Nat.le_of_ble_eq_true rfl) (Nat.le_of_ble_eq_true rfl) hz d_Mo_init_153 (fun H35 e35 z35 o35 => ?_)
  rw [kn_I0] at e35
  have hC := hC.push (H1 := H35) (x := kq_I cI 8 0) hz (by rw [hz]; exact e35) (by rw [hz]; exact o35)
  have hz : H35.size = mo + 25 := z35
  have hP := kn_keep hP (o35 mo (by omega))
  have kp : ∀ q : Nat, q < mo → H35[q]? = H[q]? := fun q hq => (o35 q (by omega)).trans (kp q hq)
  have hP : va_P D kr_cl [(mo, .inr (4, [.ref (mo + 1), .ref (mo + 6), .ref (mo + 11), .ref (mo + 16), .ref (mo + 17), .ref (mo + 18), .ref (mo + 19), .ref (mo + 20), .ref (mo + 21), .ref (mo + 22), .ref (mo + 23), .null, .null, .null, .null, .null, .null, .int 0, .null, .null]))] H35 := hP
  refine kq_putF hx hb hts kt_F_Mo t_Mo t_Mo_ok n_Mo hown hK hP rfl 11 (by decide) kt_w387 rfl hin rfl (ty := t_Mo 11) (by decide +kernel) rfl rfl (Nat.le_of_ble_eq_true rfl) d_Mo_init_155 (fun H36 L36 hP z36 o36 hL36 => ?_)
  have hC := hC.put o36
  have hz : H36.size = mo + 25 := z36.trans hz
  have kp : ∀ q : Nat, q < mo → H36[q]? = H[q]? := fun q hq => (o36 q (by omega)).trans (kp q hq)
  have hlc := t_lL (free := fun q => mo ≤ q) hlc (fun q h => Nat.le_of_eq (hL36 q h).symm)
  have hP : va_P D kr_cl [(mo, .inr (4, [.ref (mo + 1), .ref (mo + 6), .ref (mo + 11), .ref (mo + 16), .ref (mo + 17), .ref (mo + 18), .ref (mo + 19), .ref (mo + 20), .ref (mo + 21), .ref (mo + 22), .ref (mo + 23), .ref (mo + 24), .null, .null, .null, .null, .null, .int 0, .null, .null]))] H36 := hP
  refine lv_aload_n hx hb d_Mo_init_158 rfl (lv_at hl 0 rfl) ?_
  refine lv_bipush (v := nI 8) hx hb d_Mo_init_159 (by decide) ?_
  refine kq_newa (h := mo + 25) hx hb (hts _ (List.mem_cons_of_mem _ kt_w437)) rfl hcI (nI_pos (by decide)) (nI_clamp (by decide)) (by decide) (Nat.le_of_ble_eq_true rfl) (Nat.le_of_ble_eq_true rfl) hz d_Mo_init_161 (fun H37 e37 z37 o37 => ?_)
  rw [kn_I0] at e37
  have hC := hC.push (H1 := H37) (x := kq_I cI 8 0) hz (by rw [hz]; exact e37) (by rw [hz]; exact o37)
  have hz : H37.size = mo + 26 := z37
  have hP := kn_keep hP (o37 mo (by omega))
  have kp : ∀ q : Nat, q < mo → H37[q]? = H[q]? := fun q hq => (o37 q (by omega)).trans (kp q hq)
  have hP : va_P D kr_cl [(mo, .inr (4, [.ref (mo + 1), .ref (mo + 6), .ref (mo + 11), .ref (mo + 16), .ref (mo + 17), .ref (mo + 18), .ref (mo + 19), .ref (mo + 20), .ref (mo + 21), .ref (mo + 22), .ref (mo + 23), .ref (mo + 24), .null, .null, .null, .null, .null, .int 0, .null, .null]))] H37 := hP
  refine kq_putF hx hb hts kt_F_Mo t_Mo t_Mo_ok n_Mo hown hK hP rfl 12 (by decide) kt_w388 rfl hin rfl (ty := t_Mo 12) (by decide +kernel) rfl rfl (Nat.le_of_ble_eq_true rfl) d_Mo_init_163 (fun H38 L38 hP z38 o38 hL38 => ?_)
  have hC := hC.put o38
  have hz : H38.size = mo + 26 := z38.trans hz
  have kp : ∀ q : Nat, q < mo → H38[q]? = H[q]? := fun q hq => (o38 q (by omega)).trans (kp q hq)
  have hlc := t_lL (free := fun q => mo ≤ q) hlc (fun q h => Nat.le_of_eq (hL38 q h).symm)
  have hP : va_P D kr_cl [(mo, .inr (4, [.ref (mo + 1), .ref (mo + 6), .ref (mo + 11), .ref (mo + 16), .ref (mo + 17), .ref (mo + 18), .ref (mo + 19), .ref (mo + 20), .ref (mo + 21), .ref (mo + 22), .ref (mo + 23), .ref (mo + 24), .ref (mo + 25), .null, .null, .null, .null, .int 0, .null, .null]))] H38 := hP
  refine lv_aload_n hx hb d_Mo_init_166 rfl (lv_at hl 0 rfl) ?_
  refine lv_bipush (v := nI 8) hx hb d_Mo_init_167 (by decide) ?_
  refine kq_newa (h := mo + 26) hx hb (hts _ (List.mem_cons_of_mem _ kt_w437)) rfl hcI (nI_pos (by decide)) (nI_clamp (by decide)) (by decide) (Nat.le_of_ble_eq_true rfl) (Nat.le_of_ble_eq_true rfl) hz d_Mo_init_169 (fun H39 e39 z39 o39 => ?_)
  rw [kn_I0] at e39
  have hC := hC.push (H1 := H39) (x := kq_I cI 8 0) hz (by rw [hz]; exact e39) (by rw [hz]; exact o39)
  have hz : H39.size = mo + 27 := z39
  have hP := kn_keep hP (o39 mo (by omega))
  have kp : ∀ q : Nat, q < mo → H39[q]? = H[q]? := fun q hq => (o39 q (by omega)).trans (kp q hq)
  have hP : va_P D kr_cl [(mo, .inr (4, [.ref (mo + 1), .ref (mo + 6), .ref (mo + 11), .ref (mo + 16), .ref (mo + 17), .ref (mo + 18), .ref (mo + 19), .ref (mo + 20), .ref (mo + 21), .ref (mo + 22), .ref (mo + 23), .ref (mo + 24), .ref (mo + 25), .null, .null, .null, .null, .int 0, .null, .null]))] H39 := hP
  refine kq_putF hx hb hts kt_F_Mo t_Mo t_Mo_ok n_Mo hown hK hP rfl 13 (by decide) kt_w389 rfl hin rfl (ty := t_Mo 13) (by decide +kernel) rfl rfl (Nat.le_of_ble_eq_true rfl) d_Mo_init_171 (fun H40 L40 hP z40 o40 hL40 => ?_)
  have hC := hC.put o40
  have hz : H40.size = mo + 27 := z40.trans hz
  have kp : ∀ q : Nat, q < mo → H40[q]? = H[q]? := fun q hq => (o40 q (by omega)).trans (kp q hq)
  have hlc := t_lL (free := fun q => mo ≤ q) hlc (fun q h => Nat.le_of_eq (hL40 q h).symm)
  have hP : va_P D kr_cl [(mo, .inr (4, [.ref (mo + 1), .ref (mo + 6), .ref (mo + 11), .ref (mo + 16), .ref (mo + 17), .ref (mo + 18), .ref (mo + 19), .ref (mo + 20), .ref (mo + 21), .ref (mo + 22), .ref (mo + 23), .ref (mo + 24), .ref (mo + 25), .ref (mo + 26), .null, .null, .null, .int 0, .null, .null]))] H40 := hP
  refine lv_aload_n hx hb d_Mo_init_174 rfl (lv_at hl 0 rfl) ?_
  refine lv_bipush (v := nI 8) hx hb d_Mo_init_175 (by decide) ?_
  refine kq_newa (h := mo + 27) hx hb (hts _ (List.mem_cons_of_mem _ kt_w437)) rfl hcI (nI_pos (by decide)) (nI_clamp (by decide)) (by decide) (Nat.le_of_ble_eq_true rfl) (Nat.le_of_ble_eq_true rfl) hz d_Mo_init_177 (fun H41 e41 z41 o41 => ?_)
  rw [kn_I0] at e41
  have hC := hC.push (H1 := H41) (x := kq_I cI 8 0) hz (by rw [hz]; exact e41) (by rw [hz]; exact o41)
  have hz : H41.size = mo + 28 := z41
  have hP := kn_keep hP (o41 mo (by omega))
  have kp : ∀ q : Nat, q < mo → H41[q]? = H[q]? := fun q hq => (o41 q (by omega)).trans (kp q hq)
  have hP : va_P D kr_cl [(mo, .inr (4, [.ref (mo + 1), .ref (mo + 6), .ref (mo + 11), .ref (mo + 16), .ref (mo + 17), .ref (mo + 18), .ref (mo + 19), .ref (mo + 20), .ref (mo + 21), .ref (mo + 22), .ref (mo + 23), .ref (mo + 24), .ref (mo + 25), .ref (mo + 26), .null, .null, .null, .int 0, .null, .null]))] H41 := hP
  refine kq_putF hx hb hts kt_F_Mo t_Mo t_Mo_ok n_Mo hown hK hP rfl 14 (by decide) kt_w390 rfl hin rfl (ty := t_Mo 14) (by decide +kernel) rfl rfl (Nat.le_of_ble_eq_true rfl) d_Mo_init_179 (fun H42 L42 hP z42 o42 hL42 => ?_)
  have hC := hC.put o42
  have hz : H42.size = mo + 28 := z42.trans hz
  have kp : ∀ q : Nat, q < mo → H42[q]? = H[q]? := fun q hq => (o42 q (by omega)).trans (kp q hq)
  have hlc := t_lL (free := fun q => mo ≤ q) hlc (fun q h => Nat.le_of_eq (hL42 q h).symm)
  have hP : va_P D kr_cl [(mo, .inr (4, [.ref (mo + 1), .ref (mo + 6), .ref (mo + 11), .ref (mo + 16), .ref (mo + 17), .ref (mo + 18), .ref (mo + 19), .ref (mo + 20), .ref (mo + 21), .ref (mo + 22), .ref (mo + 23), .ref (mo + 24), .ref (mo + 25), .ref (mo + 26), .ref (mo + 27), .null, .null, .int 0, .null, .null]))] H42 := hP
  refine lv_aload_n hx hb d_Mo_init_182 rfl (lv_at hl 0 rfl) ?_
  refine lv_bipush (v := nI 8) hx hb d_Mo_init_183 (by decide) ?_
  refine kq_newa (h := mo + 28) hx hb (hts _ (List.mem_cons_of_mem _ kt_w437)) rfl hcI (nI_pos (by decide)) (nI_clamp (by decide)) (by decide) (Nat.le_of_ble_eq_true rfl) (Nat.le_of_ble_eq_true rfl) hz d_Mo_init_185 (fun H43 e43 z43 o43 => ?_)
  rw [kn_I0] at e43
  have hC := hC.push (H1 := H43) (x := kq_I cI 8 0) hz (by rw [hz]; exact e43) (by rw [hz]; exact o43)
  have hz : H43.size = mo + 29 := z43
  have hP := kn_keep hP (o43 mo (by omega))
  have kp : ∀ q : Nat, q < mo → H43[q]? = H[q]? := fun q hq => (o43 q (by omega)).trans (kp q hq)
  have hP : va_P D kr_cl [(mo, .inr (4, [.ref (mo + 1), .ref (mo + 6), .ref (mo + 11), .ref (mo + 16), .ref (mo + 17), .ref (mo + 18), .ref (mo + 19), .ref (mo + 20), .ref (mo + 21), .ref (mo + 22), .ref (mo + 23), .ref (mo + 24), .ref (mo + 25), .ref (mo + 26), .ref (mo + 27), .null, .null, .int 0, .null, .null]))] H43 := hP
  refine kq_putF hx hb hts kt_F_Mo t_Mo t_Mo_ok n_Mo hown hK hP rfl 15 (by decide) kt_w391 rfl hin rfl (ty := t_Mo 15) (by decide +kernel) rfl rfl (Nat.le_of_ble_eq_true rfl) d_Mo_init_187 (fun H44 L44 hP z44 o44 hL44 => ?_)
  have hC := hC.put o44
  have hz : H44.size = mo + 29 := z44.trans hz
  have kp : ∀ q : Nat, q < mo → H44[q]? = H[q]? := fun q hq => (o44 q (by omega)).trans (kp q hq)
  have hlc := t_lL (free := fun q => mo ≤ q) hlc (fun q h => Nat.le_of_eq (hL44 q h).symm)
  have hP : va_P D kr_cl [(mo, .inr (4, [.ref (mo + 1), .ref (mo + 6), .ref (mo + 11), .ref (mo + 16), .ref (mo + 17), .ref (mo + 18), .ref (mo + 19), .ref (mo + 20), .ref (mo + 21), .ref (mo + 22), .ref (mo + 23), .ref (mo + 24), .ref (mo + 25), .ref (mo + 26), .ref (mo + 27), .ref (mo + 28), .null, .int 0, .null, .null]))] H44 := hP
  refine lv_aload_n hx hb d_Mo_init_190 rfl (lv_at hl 0 rfl) ?_
  refine lv_bipush (v := nI 8) hx hb d_Mo_init_191 (by decide) ?_
  refine kq_newa (h := mo + 29) hx hb (hts _ (List.mem_cons_of_mem _ kt_w437)) rfl hcI (nI_pos (by decide)) (nI_clamp (by decide)) (by decide) (Nat.le_of_ble_eq_true rfl) (Nat.le_of_ble_eq_true rfl) hz d_Mo_init_193 (fun H45 e45 z45 o45 => ?_)
  rw [kn_I0] at e45
  have hC := hC.push (H1 := H45) (x := kq_I cI 8 0) hz (by rw [hz]; exact e45) (by rw [hz]; exact o45)
  have hz : H45.size = mo + 30 := z45
  have hP := kn_keep hP (o45 mo (by omega))
  have kp : ∀ q : Nat, q < mo → H45[q]? = H[q]? := fun q hq => (o45 q (by omega)).trans (kp q hq)
  have hP : va_P D kr_cl [(mo, .inr (4, [.ref (mo + 1), .ref (mo + 6), .ref (mo + 11), .ref (mo + 16), .ref (mo + 17), .ref (mo + 18), .ref (mo + 19), .ref (mo + 20), .ref (mo + 21), .ref (mo + 22), .ref (mo + 23), .ref (mo + 24), .ref (mo + 25), .ref (mo + 26), .ref (mo + 27), .ref (mo + 28), .null, .int 0, .null, .null]))] H45 := hP
  refine kq_putF hx hb hts kt_F_Mo t_Mo t_Mo_ok n_Mo hown hK hP rfl 16 (by decide) kt_w392 rfl hin rfl (ty := t_Mo 16) (by decide +kernel) rfl rfl (Nat.le_of_ble_eq_true rfl) d_Mo_init_195 (fun H46 L46 hP z46 o46 hL46 => ?_)
  have hC := hC.put o46
  have hz : H46.size = mo + 30 := z46.trans hz
  have kp : ∀ q : Nat, q < mo → H46[q]? = H[q]? := fun q hq => (o46 q (by omega)).trans (kp q hq)
  have hlc := t_lL (free := fun q => mo ≤ q) hlc (fun q h => Nat.le_of_eq (hL46 q h).symm)
  have hP : va_P D kr_cl [(mo, .inr (4, [.ref (mo + 1), .ref (mo + 6), .ref (mo + 11), .ref (mo + 16), .ref (mo + 17), .ref (mo + 18), .ref (mo + 19), .ref (mo + 20), .ref (mo + 21), .ref (mo + 22), .ref (mo + 23), .ref (mo + 24), .ref (mo + 25), .ref (mo + 26), .ref (mo + 27), .ref (mo + 28), .ref (mo + 29), .int 0, .null, .null]))] H46 := hP
  refine lv_aload_n hx hb d_Mo_init_198 rfl (lv_at hl 0 rfl) ?_
  refine lv_bipush (v := nI 8) hx hb d_Mo_init_199 (by decide) ?_
  refine kq_newa (h := mo + 30) hx hb (hts _ (List.mem_cons_of_mem _ kt_w437)) rfl hcI (nI_pos (by decide)) (nI_clamp (by decide)) (by decide) (Nat.le_of_ble_eq_true rfl) (Nat.le_of_ble_eq_true rfl) hz d_Mo_init_201 (fun H47 e47 z47 o47 => ?_)
  rw [kn_I0] at e47
  have hC := hC.push (H1 := H47) (x := kq_I cI 8 0) hz (by rw [hz]; exact e47) (by rw [hz]; exact o47)
  have hz : H47.size = mo + 31 := z47
  have hP := kn_keep hP (o47 mo (by omega))
  have kp : ∀ q : Nat, q < mo → H47[q]? = H[q]? := fun q hq => (o47 q (by omega)).trans (kp q hq)
  have hP : va_P D kr_cl [(mo, .inr (4, [.ref (mo + 1), .ref (mo + 6), .ref (mo + 11), .ref (mo + 16), .ref (mo + 17), .ref (mo + 18), .ref (mo + 19), .ref (mo + 20), .ref (mo + 21), .ref (mo + 22), .ref (mo + 23), .ref (mo + 24), .ref (mo + 25), .ref (mo + 26), .ref (mo + 27), .ref (mo + 28), .ref (mo + 29), .int 0, .null, .null]))] H47 := hP
  refine kq_putF hx hb hts kt_F_Mo t_Mo t_Mo_ok n_Mo hown hK hP rfl 18 (by decide) kt_w394 rfl hin rfl (ty := t_Mo 18) (by decide +kernel) rfl rfl (Nat.le_of_ble_eq_true rfl) d_Mo_init_203 (fun H48 L48 hP z48 o48 hL48 => ?_)
  have hC := hC.put o48
  have hz : H48.size = mo + 31 := z48.trans hz
  have kp : ∀ q : Nat, q < mo → H48[q]? = H[q]? := fun q hq => (o48 q (by omega)).trans (kp q hq)
  have hlc := t_lL (free := fun q => mo ≤ q) hlc (fun q h => Nat.le_of_eq (hL48 q h).symm)
  have hP : va_P D kr_cl [(mo, .inr (4, [.ref (mo + 1), .ref (mo + 6), .ref (mo + 11), .ref (mo + 16), .ref (mo + 17), .ref (mo + 18), .ref (mo + 19), .ref (mo + 20), .ref (mo + 21), .ref (mo + 22), .ref (mo + 23), .ref (mo + 24), .ref (mo + 25), .ref (mo + 26), .ref (mo + 27), .ref (mo + 28), .ref (mo + 29), .int 0, .ref (mo + 30), .null]))] H48 := hP
  refine lv_aload_n hx hb d_Mo_init_206 rfl (lv_at hl 0 rfl) ?_
  refine lv_bipush (v := nI 8) hx hb d_Mo_init_207 (by decide) ?_
  refine kq_newa (h := mo + 31) hx hb (hts _ (List.mem_cons_of_mem _ kt_w437)) rfl hcI (nI_pos (by decide)) (nI_clamp (by decide)) (by decide) (Nat.le_of_ble_eq_true rfl) (Nat.le_of_ble_eq_true rfl) hz d_Mo_init_209 (fun H49 e49 z49 o49 => ?_)
  rw [kn_I0] at e49
  have hC := hC.push (H1 := H49) (x := kq_I cI 8 0) hz (by rw [hz]; exact e49) (by rw [hz]; exact o49)
  have hz : H49.size = mo + 32 := z49
  have hP := kn_keep hP (o49 mo (by omega))
  have kp : ∀ q : Nat, q < mo → H49[q]? = H[q]? := fun q hq => (o49 q (by omega)).trans (kp q hq)
  have hP : va_P D kr_cl [(mo, .inr (4, [.ref (mo + 1), .ref (mo + 6), .ref (mo + 11), .ref (mo + 16), .ref (mo + 17), .ref (mo + 18), .ref (mo + 19), .ref (mo + 20), .ref (mo + 21), .ref (mo + 22), .ref (mo + 23), .ref (mo + 24), .ref (mo + 25), .ref (mo + 26), .ref (mo + 27), .ref (mo + 28), .ref (mo + 29), .int 0, .ref (mo + 30), .null]))] H49 := hP
  refine kq_putF hx hb hts kt_F_Mo t_Mo t_Mo_ok n_Mo hown hK hP rfl 19 (by decide) kt_w395 rfl hin rfl (ty := t_Mo 19) (by decide +kernel) rfl rfl (Nat.le_of_ble_eq_true rfl) d_Mo_init_211 (fun H50 L50 hP z50 o50 hL50 => ?_)
  have hC := hC.put o50
  have hz : H50.size = mo + 32 := z50.trans hz
  have kp : ∀ q : Nat, q < mo → H50[q]? = H[q]? := fun q hq => (o50 q (by omega)).trans (kp q hq)
  have hlc := t_lL (free := fun q => mo ≤ q) hlc (fun q h => Nat.le_of_eq (hL50 q h).symm)
  have hP : va_P D kr_cl [(mo, .inr (4, [.ref (mo + 1), .ref (mo + 6), .ref (mo + 11), .ref (mo + 16), .ref (mo + 17), .ref (mo + 18), .ref (mo + 19), .ref (mo + 20), .ref (mo + 21), .ref (mo + 22), .ref (mo + 23), .ref (mo + 24), .ref (mo + 25), .ref (mo + 26), .ref (mo + 27), .ref (mo + 28), .ref (mo + 29), .int 0, .ref (mo + 30), .ref (mo + 31)]))] H50 := hP
  have hR : ∀ k, 18 ≤ k → k ≤ 31 → k ≠ 21 → H50[mo + k]? = some (kq_I cI 8 0) := fun k k1 k2 k3 => by
    rcases (show k = 18 ∨ k = 19 ∨ k = 20 ∨ k = 22 ∨ k = 23 ∨ k = 24 ∨ k = 25 ∨ k = 26 ∨ k = 27 ∨ k = 28 ∨ k = 29 ∨ k = 30 ∨ k = 31 by omega) with rfl | rfl | rfl | rfl | rfl | rfl | rfl | rfl | rfl | rfl | rfl | rfl | rfl
    · exact hC 17 _ rfl
    · exact hC 18 _ rfl
    · exact hC 19 _ rfl
    · exact hC 21 _ rfl
    · exact hC 22 _ rfl
    · exact hC 23 _ rfl
    · exact hC 24 _ rfl
    · exact hC 25 _ rfl
    · exact hC 26 _ rfl
    · exact hC 27 _ rfl
    · exact hC 28 _ rfl
    · exact hC 29 _ rfl
    · exact hC 30 _ rfl
  have hR4 : ∀ j, j < 4 → H50[mo + 2 + j]? = some (kq_I cI 8 0) ∧ H50[mo + 7 + j]? = some (kq_I cI 8 0) ∧ H50[mo + 12 + j]? = some (kq_I cI 8 0) := fun j hj => by
    rcases (show j = 0 ∨ j = 1 ∨ j = 2 ∨ j = 3 by omega) with rfl | rfl | rfl | rfl
    · exact ⟨hC 1 _ rfl, hC 6 _ rfl, hC 11 _ rfl⟩
    · exact ⟨hC 2 _ rfl, hC 7 _ rfl, hC 12 _ rfl⟩
    · exact ⟨hC 3 _ rfl, hC 8 _ rfl, hC 13 _ rfl⟩
    · exact ⟨hC 4 _ rfl, hC 9 _ rfl, hC 14 _ rfl⟩
  exact W.vret hx hb hret (fun t ht _ => ⟨_, rfl, rfl, by rw [ht]; exact hz, fun q hq => by rw [ht]; exact kp q hq, by rw [ht]; exact ⟨hP, ⟨hC 0 _ rfl, hC 5 _ rfl, hC 10 _ rfl⟩, hR4, ⟨_, (fun j hj => by rcases (show j = 0 ∨ j = 1 ∨ j = 2 ∨ j = 3 by omega) with rfl | rfl | rfl | rfl <;> rfl), hC 15 _ rfl⟩, hC 16 _ rfl, hR, hC 20 _ rfl⟩⟩) hlc d_Mo_init_214
