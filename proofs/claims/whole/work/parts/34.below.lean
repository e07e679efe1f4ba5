/-! KeyCurveModel: its rows by number; below, set, get (own rows). -/
def ks_G (E : ks_E) (mo : Nat) : Prop := (∀ j, j < 4 → ks_out E (mo + 2 + j) ∧ ks_out E (mo + 7 + j) ∧ ks_out E (mo + 12 + j)) ∧ ¬ ks_L E (mo + 1) ∧ ¬ ks_L E (mo + 6) ∧ ¬ ks_L E (mo + 11)
def ks_K (E : ks_E) (A : Nat → Nat) (mo : Nat) (U : State) : Prop := ks_C E A U ∧ kq_r U (.array .int) (ks_H E) (mo + 1) 4 (fun i => .ref (mo + 2 + i)) ∧ kq_r U (.array .int) (ks_H E) (mo + 6) 4 (fun i => .ref (mo + 7 + i)) ∧ kq_r U (.array .int) (ks_H E) (mo + 11) 4 (fun i => .ref (mo + 12 + i))
theorem ks_K_st (E : ks_E) (A : Nat → Nat) (mo : Nat) : kq_st (ks_K E A mo) := (ks_C_st E A).both (kq_st_r.both (kq_st_r.both kq_st_r))
theorem kx_okm (d : Bool) : kp_ok (kx_m d) (kx_G d) := by
  cases d
  · exact kp_okP
  · exact kp_okN
/-- the modulus' row by the flag -/
def kx_mA (A : Nat → Nat) (d : Bool) : Nat := if d = true then A 1 else A 0
theorem ks_Am {E : ks_E} {A : Nat → Nat} (h : ks_A E A) (d : Bool) : ks_S E (kx_mA A d) ∧ ks_v E (kx_mA A d) = kx_m d := by
  cases d
  · exact h.1
  · exact h.2.1
theorem d_Mo_get_0 : decode b_Mo_get 0 = .ok (.aload_n 0, 1) := by decide +kernel
theorem d_Mo_get_1 : decode b_Mo_get 1 = .ok (.getfield 9, 3) := by decide +kernel
theorem d_Mo_get_4 : decode b_Mo_get 4 = .ok (.iload_n 1, 1) := by decide +kernel
theorem d_Mo_get_5 : decode b_Mo_get 5 = .ok (.iconst 3, 1) := by decide +kernel
theorem d_Mo_get_6 : decode b_Mo_get 6 = .ok (.iand, 1) := by decide +kernel
theorem d_Mo_get_7 : decode b_Mo_get 7 = .ok (.aaload, 1) := by decide +kernel
theorem d_Mo_get_8 : decode b_Mo_get 8 = .ok (.iload_n 2, 1) := by decide +kernel
theorem d_Mo_get_9 : decode b_Mo_get 9 = .ok (.bipush 7, 2) := by decide +kernel
theorem d_Mo_get_11 : decode b_Mo_get 11 = .ok (.iand, 1) := by decide +kernel
theorem d_Mo_get_12 : decode b_Mo_get 12 = .ok (.iaload, 1) := by decide +kernel
theorem d_Mo_get_13 : decode b_Mo_get 13 = .ok (.ireturn, 1) := by decide +kernel
set_option maxHeartbeats 4000000 in
set_option maxRecDepth 100000 in
theorem c_Mo_get (l : Launch) (E : ks_E) (A : Nat → Nat) (mo : Nat) (far : Bool) (v : Nat → Nat) (H : Heap) (hE : ks_ok E) (hA : ks_A E A) (hO : ks_O E mo far) (hG : ks_G E mo) (hW : ks_W E v H) (r k : Int32) : Met l y_Mo_get w_Mo_get ({ frames := 0, cells := 0, slots := 0, locals := 0 }) (kq_P [.ref mo, .int r, .int k] H (ks_K E A mo)) (kq_Q (fun o1 H1 => o1 = some (.int (nI (kw_d (v (mo + 2 + kx3 r)) (kx7 k)))) ∧ ks_W E v H1)) 0 0 (fun _ => False) := by
  refine Met.ofW (cc := b_Mo_get) (maxL := 3) (ret := (some .int)) (by decide) rfl ?_
  intro p e s m args below meth c s₁ B0 hml hv
  obtain ⟨rfl, hH, hKK⟩ := hv
  have hx := B0.exec
  have hb := B0.bytes
  have hret := B0.returns
  have hts := atoms_spec (ws := w_Mo_get) B0.pre
  have hown : s.vm.findClass R_Mo = some m.cls := findClass_of_methodNamed B0.named
  have hlocks := B0.notSynchronized
  rw [hH]
  have hl := lv_entry ([.ref mo, .int r, .int k]) (n := 3) (Nat.le_of_ble_eq_true rfl)
  rw [lg_entry_eq]
  generalize (lg_sl ([.ref mo, .int r, .int k]) ++ List.replicate (3 - (lg_sl ([.ref mo, .int r, .int k])).length) Slot.unset).toArray = ls at hl ⊢
  have hl : lv_has ls 3 [(0, .ref mo), (1, .int r), (2, .int k)] := hl
  have hC := hKK.1
  have hB := hC.1
  have hK := hB.1
  have hT := ks_T hE hB
  have hOo := ks_obj hW hO.1 hO.2.1
  have har := hKK.2.1.other (hW.2.2.1 (mo + 1) hG.2.1)
  have hax := hKK.2.2.1.other (hW.2.2.1 (mo + 6) hG.2.2.1)
  have hay := hKK.2.2.2.other (hW.2.2.1 (mo + 11) hG.2.2.2)
  have hsr := ks_src hE hW hB (Or.inl (hG.1 (kx3 r) (kx3_lt r)).1)
  refine lv_aload_n hx hb d_Mo_get_0 rfl (lv_at hl 0 rfl) ?_
  refine kq_get hx hb hts kt_F_Mo hown hK hOo rfl 0 (by decide) kt_w376 rfl d_Mo_get_1 ?_
  refine lv_iload_n hx hb d_Mo_get_4 rfl (lv_at hl 1 rfl) ?_
  refine lv_iconst (v := nI 3) hx hb d_Mo_get_5 (by decide) ?_
  refine lv_iand hx hb d_Mo_get_6 ?_
  refine kq_ri (show r &&& (nI 3) = nI (kx3 r) from kx_and3 r) ?_
  refine kq_aald hx hb (har) rfl (kx3_lt r) (by decide) (rfl) d_Mo_get_7 ?_
  refine lv_iload_n hx hb d_Mo_get_8 rfl (lv_at hl 2 rfl) ?_
  refine lv_bipush (v := nI 7) hx hb d_Mo_get_9 (by decide) ?_
  refine lv_iand hx hb d_Mo_get_11 ?_
  refine kq_ri (show k &&& (nI 7) = nI (kx7 k) from kx_and7 k) ?_
  refine kq_iald hx hb (hsr) (kx7_lt k) (by decide) (rfl) d_Mo_get_12 ?_
  exact W.iret hx hb hret (fun t ht _ => ⟨_, rfl, rfl, by rw [ht]; exact hW⟩) (fun q h => by cases h) d_Mo_get_13
theorem d_Mo_set_0 : decode b_Mo_set 0 = .ok (.aload_n 0, 1) := by decide +kernel
theorem d_Mo_set_1 : decode b_Mo_set 1 = .ok (.getfield 9, 3) := by decide +kernel
theorem d_Mo_set_4 : decode b_Mo_set 4 = .ok (.iload_n 1, 1) := by decide +kernel
theorem d_Mo_set_5 : decode b_Mo_set 5 = .ok (.iconst 3, 1) := by decide +kernel
theorem d_Mo_set_6 : decode b_Mo_set 6 = .ok (.iand, 1) := by decide +kernel
theorem d_Mo_set_7 : decode b_Mo_set 7 = .ok (.aaload, 1) := by decide +kernel
theorem d_Mo_set_8 : decode b_Mo_set 8 = .ok (.iload_n 2, 1) := by decide +kernel
theorem d_Mo_set_9 : decode b_Mo_set 9 = .ok (.bipush 7, 2) := by decide +kernel
theorem d_Mo_set_11 : decode b_Mo_set 11 = .ok (.iand, 1) := by decide +kernel
theorem d_Mo_set_12 : decode b_Mo_set 12 = .ok (.iaload, 1) := by decide +kernel
theorem d_Mo_set_13 : decode b_Mo_set 13 = .ok (.istore 4, 2) := by decide +kernel
theorem d_Mo_set_15 : decode b_Mo_set 15 = .ok (.aload_n 0, 1) := by decide +kernel
theorem d_Mo_set_16 : decode b_Mo_set 16 = .ok (.getfield 9, 3) := by decide +kernel
theorem d_Mo_set_19 : decode b_Mo_set 19 = .ok (.iload_n 1, 1) := by decide +kernel
theorem d_Mo_set_20 : decode b_Mo_set 20 = .ok (.iconst 3, 1) := by decide +kernel
theorem d_Mo_set_21 : decode b_Mo_set 21 = .ok (.iand, 1) := by decide +kernel
theorem d_Mo_set_22 : decode b_Mo_set 22 = .ok (.aaload, 1) := by decide +kernel
theorem d_Mo_set_23 : decode b_Mo_set 23 = .ok (.iload_n 2, 1) := by decide +kernel
theorem d_Mo_set_24 : decode b_Mo_set 24 = .ok (.bipush 7, 2) := by decide +kernel
theorem d_Mo_set_26 : decode b_Mo_set 26 = .ok (.iand, 1) := by decide +kernel
theorem d_Mo_set_27 : decode b_Mo_set 27 = .ok (.iload_n 3, 1) := by decide +kernel
theorem d_Mo_set_28 : decode b_Mo_set 28 = .ok (.iastore, 1) := by decide +kernel
theorem d_Mo_set_29 : decode b_Mo_set 29 = .ok (.iload 4, 2) := by decide +kernel
theorem d_Mo_set_31 : decode b_Mo_set 31 = .ok (.ireturn, 1) := by decide +kernel
set_option maxHeartbeats 4000000 in
set_option maxRecDepth 100000 in
theorem c_Mo_set (l : Launch) (E : ks_E) (A : Nat → Nat) (mo : Nat) (far : Bool) (v : Nat → Nat) (H : Heap) (hE : ks_ok E) (hA : ks_A E A) (hO : ks_O E mo far) (hG : ks_G E mo) (hW : ks_W E v H) (r k x : Int32) : Met l y_Mo_set w_Mo_set ({ frames := 0, cells := 0, slots := 0, locals := 0 }) (kq_P [.ref mo, .int r, .int k, .int x] H (ks_K E A mo)) (kq_Q (fun o1 H1 => o1 = some (.int (nI (kw_d (v (mo + 2 + kx3 r)) (kx7 k)))) ∧ ks_W E (va_up v (mo + 2 + kx3 r) (kw_s (v (mo + 2 + kx3 r)) (kx7 k) x.toBitVec.toNat)) H1)) 0 0 (fun q => q = mo + 2 + kx3 r) := by
  refine Met.ofW (cc := b_Mo_set) (maxL := 5) (ret := (some .int)) (by decide) rfl ?_
  intro p e s m args below meth c s₁ B0 hml hv
  obtain ⟨rfl, hH, hKK⟩ := hv
  have hx := B0.exec
  have hb := B0.bytes
  have hret := B0.returns
  have hts := atoms_spec (ws := w_Mo_set) B0.pre
  have hown : s.vm.findClass R_Mo = some m.cls := findClass_of_methodNamed B0.named
  have hlocks := B0.notSynchronized
  rw [hH]
  have hl := lv_entry ([.ref mo, .int r, .int k, .int x]) (n := 5) (Nat.le_of_ble_eq_true rfl)
  rw [lg_entry_eq]
  generalize (lg_sl ([.ref mo, .int r, .int k, .int x]) ++ List.replicate (5 - (lg_sl ([.ref mo, .int r, .int k, .int x])).length) Slot.unset).toArray = ls at hl ⊢
  have hl : lv_has ls 5 [(0, .ref mo), (1, .int r), (2, .int k), (3, .int x)] := hl
  have hC := hKK.1
  have hB := hC.1
  have hK := hB.1
  have hT := ks_T hE hB
  have hOo := ks_obj hW hO.1 hO.2.1
  have har := hKK.2.1.other (hW.2.2.1 (mo + 1) hG.2.1)
  have hax := hKK.2.2.1.other (hW.2.2.1 (mo + 6) hG.2.2.1)
  have hay := hKK.2.2.2.other (hW.2.2.1 (mo + 11) hG.2.2.2)
  have hro := (hG.1 (kx3 r) (kx3_lt r)).1
  have hsr := ks_src hE hW hB (Or.inl hro)
  have hlr := ks_lt hE hW (Or.inl hro)
  have hxl : x.toBitVec.toNat < 4294967296 := x.toBitVec.isLt
  have hxe : x = nI x.toBitVec.toNat := Int32.toBitVec_inj.mp (by show _ = BitVec.ofNat 32 _; simp)
  refine lv_aload_n hx hb d_Mo_set_0 rfl (lv_at hl 0 rfl) ?_
  refine kq_get hx hb hts kt_F_Mo hown hK hOo rfl 0 (by decide) kt_w376 rfl d_Mo_set_1 ?_
  refine lv_iload_n hx hb d_Mo_set_4 rfl (lv_at hl 1 rfl) ?_
  refine lv_iconst (v := nI 3) hx hb d_Mo_set_5 (by decide) ?_
  refine lv_iand hx hb d_Mo_set_6 ?_
  refine kq_ri (show r &&& (nI 3) = nI (kx3 r) from kx_and3 r) ?_
  refine kq_aald hx hb (har) rfl (kx3_lt r) (by decide) (rfl) d_Mo_set_7 ?_
  refine lv_iload_n hx hb d_Mo_set_8 rfl (lv_at hl 2 rfl) ?_
  refine lv_bipush (v := nI 7) hx hb d_Mo_set_9 (by decide) ?_
  refine lv_iand hx hb d_Mo_set_11 ?_
  refine kq_ri (show k &&& (nI 7) = nI (kx7 k) from kx_and7 k) ?_
  refine kq_iald hx hb (hsr) (kx7_lt k) (by decide) (rfl) d_Mo_set_12 ?_
  refine lv_istore hx hb d_Mo_set_13 hl (by decide) rfl (fun ls hl => ?_)
  have hl : lv_has ls 5 [(4, .int (nI (kw_d (v (mo + 2 + kx3 r)) (kx7 k)))), (0, .ref mo), (1, .int r), (2, .int k), (3, .int x)] := hl
  refine lv_aload_n hx hb d_Mo_set_15 rfl (lv_at hl 1 rfl) ?_
  refine kq_get hx hb hts kt_F_Mo hown hK hOo rfl 0 (by decide) kt_w376 rfl d_Mo_set_16 ?_
  refine lv_iload_n hx hb d_Mo_set_19 rfl (lv_at hl 2 rfl) ?_
  refine lv_iconst (v := nI 3) hx hb d_Mo_set_20 (by decide) ?_
  refine lv_iand hx hb d_Mo_set_21 ?_
  refine kq_ri (show r &&& (nI 3) = nI (kx3 r) from kx_and3 r) ?_
  refine kq_aald hx hb (har) rfl (kx3_lt r) (by decide) (rfl) d_Mo_set_22 ?_
  refine lv_iload_n hx hb d_Mo_set_23 rfl (lv_at hl 3 rfl) ?_
  refine lv_bipush (v := nI 7) hx hb d_Mo_set_24 (by decide) ?_
  refine lv_iand hx hb d_Mo_set_26 ?_
  refine kq_ri (show k &&& (nI 7) = nI (kx7 k) from kx_and7 k) ?_
  refine lv_iload_n hx hb d_Mo_set_27 rfl (lv_at hl 4 rfl) ?_
  refine kq_ri (show x = nI x.toBitVec.toNat from hxe) ?_
  refine kq_iast hx hb (hT) (ks_row hW hro) (kx7_lt k) (by decide) (hxl) d_Mo_set_28 ?_
  refine lv_iload hx hb d_Mo_set_29 (lv_at hl 0 rfl) ?_
  exact W.iret hx hb hret (fun t ht _ => ⟨_, rfl, rfl, by rw [ht]; exact ks_put hE hW hro (kw_s_lt hlr (kx7_lt k) hxl)⟩) (t_lc (free := fun q => q = mo + 2 + kx3 r) (fun q h => by cases h) rfl) d_Mo_set_31
theorem d_Mo_below_0 : decode b_Mo_below 0 = .ok (.aload_n 1, 1) := by decide +kernel
theorem d_Mo_below_1 : decode b_Mo_below 1 = .ok (.aload_n 0, 1) := by decide +kernel
theorem d_Mo_below_2 : decode b_Mo_below 2 = .ok (.getfield 9, 3) := by decide +kernel
theorem d_Mo_below_5 : decode b_Mo_below 5 = .ok (.iload_n 2, 1) := by decide +kernel
theorem d_Mo_below_6 : decode b_Mo_below 6 = .ok (.iconst 3, 1) := by decide +kernel
theorem d_Mo_below_7 : decode b_Mo_below 7 = .ok (.iand, 1) := by decide +kernel
theorem d_Mo_below_8 : decode b_Mo_below 8 = .ok (.aaload, 1) := by decide +kernel
theorem d_Mo_below_9 : decode b_Mo_below 9 = .ok (.invokestatic 104, 3) := by decide +kernel
theorem d_Mo_below_12 : decode b_Mo_below 12 = .ok (.iload_n 3, 1) := by decide +kernel
theorem d_Mo_below_13 : decode b_Mo_below 13 = .ok (.ifCond .eq 9, 3) := by decide +kernel
theorem d_Mo_below_16 : decode b_Mo_below 16 = .ok (.getstatic 115, 3) := by decide +kernel
theorem d_Mo_below_19 : decode b_Mo_below 19 = .ok (.goto 6, 3) := by decide +kernel
theorem d_Mo_below_22 : decode b_Mo_below 22 = .ok (.getstatic 90, 3) := by decide +kernel
theorem d_Mo_below_25 : decode b_Mo_below 25 = .ok (.astore 4, 2) := by decide +kernel
theorem d_Mo_below_27 : decode b_Mo_below 27 = .ok (.aload_n 1, 1) := by decide +kernel
theorem d_Mo_below_28 : decode b_Mo_below 28 = .ok (.aload 4, 2) := by decide +kernel
theorem d_Mo_below_30 : decode b_Mo_below 30 = .ok (.invokestatic 93, 3) := by decide +kernel
theorem d_Mo_below_33 : decode b_Mo_below 33 = .ok (.ifCond .lt 11, 3) := by decide +kernel
theorem d_Mo_below_36 : decode b_Mo_below 36 = .ok (.aload_n 1, 1) := by decide +kernel
theorem d_Mo_below_37 : decode b_Mo_below 37 = .ok (.aload_n 1, 1) := by decide +kernel
theorem d_Mo_below_38 : decode b_Mo_below 38 = .ok (.aload 4, 2) := by decide +kernel
theorem d_Mo_below_40 : decode b_Mo_below 40 = .ok (.invokestatic 97, 3) := by decide +kernel
theorem d_Mo_below_43 : decode b_Mo_below 43 = .ok (.pop, 1) := by decide +kernel
theorem d_Mo_below_44 : decode b_Mo_below 44 = .ok (.return_, 1) := by decide +kernel
set_option maxHeartbeats 4000000 in
set_option maxRecDepth 100000 in
theorem c_Mo_below (l : Launch) (E : ks_E) (A : Nat → Nat) (mo : Nat) (far : Bool) (v : Nat → Nat) (H : Heap) (hE : ks_ok E) (hA : ks_A E A) (hO : ks_O E mo far) (hG : ks_G E mo) (hW : ks_W E v H) (r : Nat) (hr : ks_out E r) (i : Int32) (d : Bool) : Met l y_Mo_below w_Mo_below ({ frames := 3, cells := 0, slots := 0, locals := 66 }) (kq_P [.ref mo, .ref r, .int i, .int (kq_z d)] H (ks_K E A mo)) (kq_Q (fun o1 H1 => o1 = none ∧ ks_W E (va_up v r (v (mo + 2 + kx3 i) % kx_m d)) H1)) 0 0 (fun q => q = r) := by
  refine Met.ofW (cc := b_Mo_below) (maxL := 5) (ret := none) (by decide) rfl ?_
  intro p e s m args below meth c s₁ B0 hml hv
  obtain ⟨rfl, hH, hKK⟩ := hv
  have hx := B0.exec
  have hb := B0.bytes
  have hret := B0.returns
  have hts := atoms_spec (ws := w_Mo_below) B0.pre
  have hown : s.vm.findClass R_Mo = some m.cls := findClass_of_methodNamed B0.named
  have hlocks := B0.notSynchronized
  rw [hH]
  have hl := lv_entry ([.ref mo, .ref r, .int i, .int (kq_z d)]) (n := 5) (Nat.le_of_ble_eq_true rfl)
  rw [lg_entry_eq]
  generalize (lg_sl ([.ref mo, .ref r, .int i, .int (kq_z d)]) ++ List.replicate (5 - (lg_sl ([.ref mo, .ref r, .int i, .int (kq_z d)])).length) Slot.unset).toArray = ls at hl ⊢
  have hl : lv_has ls 5 [(0, .ref mo), (1, .ref r), (2, .int i), (3, .int (kq_z d))] := hl
  have hC := hKK.1
  have hB := hC.1
  have hK := hB.1
  have hT := ks_T hE hB
  have hOo := ks_obj hW hO.1 hO.2.1
  have har := hKK.2.1.other (hW.2.2.1 (mo + 1) hG.2.1)
  have hax := hKK.2.2.1.other (hW.2.2.1 (mo + 6) hG.2.2.1)
  have hay := hKK.2.2.2.other (hW.2.2.1 (mo + 11) hG.2.2.2)
  have hro := (hG.1 (kx3 i) (kx3_lt i)).1
  have hsr := ks_src hE hW hB (Or.inl hro)
  have hlr := ks_lt hE hW (Or.inl hro)
  have key := kp_trim (kx_okm d) hlr
  have hW1 := ks_put hE hW hr hlr
  have hs1 := ks_src hE hW1 hB (Or.inl hr)
  have hr1 := ks_row hW1 hr
  rw [kq_up_at] at hs1 hr1
  have hm := ks_Am hA d
  have hsm := ks_src hE hW1 hB (Or.inr hm.1)
  have hlm := ks_lt hE hW1 (Or.inr hm.1)
  rw [ks_cst hW1 hm] at hsm hlm
  refine lv_aload_n hx hb d_Mo_below_0 rfl (lv_at hl 1 rfl) ?_
  refine lv_aload_n hx hb d_Mo_below_1 rfl (lv_at hl 0 rfl) ?_
  refine kq_get hx hb hts kt_F_Mo hown hK hOo rfl 0 (by decide) kt_w376 rfl d_Mo_below_2 ?_
  refine lv_iload_n hx hb d_Mo_below_5 rfl (lv_at hl 2 rfl) ?_
  refine lv_iconst (v := nI 3) hx hb d_Mo_below_6 (by decide) ?_
  refine lv_iand hx hb d_Mo_below_7 ?_
  refine kq_ri (show i &&& (nI 3) = nI (kx3 i) from kx_and3 i) ?_
  refine kq_aald hx hb (har) rfl (kx3_lt i) (by decide) (rfl) d_Mo_below_8 ?_
  refine kq_call (va_runS (As := [.ref r, .ref (mo + 2 + kx3 i)]) (rest := []) ⟨hx, hb, hml, hown, hts⟩ (c_Mo_copy l H (ks_c E) r (mo + 2 + kx3 i) (v r) (v (mo + 2 + kx3 i)) (ks_row hW hr)) (va_cwS 2 hts (kt_inS kt_w461 kt_w459 kt_w460 kt_w5) rfl rfl rfl (by decide +kernel) ⟨Nat.le_of_ble_eq_true rfl, Nat.le_of_ble_eq_true rfl⟩) (kq_preS (kq_st_A.both kq_st_r) (⟨hT, hsr⟩)) rfl rfl hl.1 rfl (lv_room (Nat.le_of_ble_eq_true rfl)) d_Mo_below_9 ⟨Nat.zero_le _, Nat.zero_le _⟩) (fun v9 H9 L1 hq9 hL1 => ?_)
  obtain ⟨rfl, rfl⟩ := hq9
  refine W.eq (g2 := F0 m 12 ls []) rfl ?_
  have hlc1 : ∀ q ∈ ([] : List Loc) ++ L1, q.base = r := t_lL (free := fun q => q = r) (fun q h => by cases h) hL1
  refine lv_iload_n hx hb d_Mo_below_12 rfl (lv_at hl 3 rfl) ?_
  refine lv_if_eq hx hb d_Mo_below_13 rfl (fun hc0 => ?_) (fun hc0 => ?_)
  · have hd := kq_z_b0 hc0
    subst hd
    refine kq_gets hx hb hts (ks_zat hW1 hC.2.1) hown kt_w453 d_Mo_below_22 ?_
    refine lv_astore hx hb d_Mo_below_25 hl (by decide) rfl (fun ls hl => ?_)
    have hl : lv_has ls 5 [(4, .ref (A 0)), (0, .ref mo), (1, .ref r), (2, .int i), (3, .int (kq_z false))] := hl
    refine lv_aload_n hx hb d_Mo_below_27 rfl (lv_at hl 2 rfl) ?_
    refine lv_aload hx hb d_Mo_below_28 (lv_at hl 0 rfl) ?_
    refine kq_call (va_runS (As := [.ref r, .ref (A 0)]) (rest := []) ⟨hx, hb, hml, hown, hts⟩ (c_Mo_compare l _ r (A 0) (v (mo + 2 + kx3 i)) (kx_m false) hlr hlm) (va_cwS 2 hts (kt_inS kt_w465 kt_w463 kt_w464 kt_w5) rfl rfl rfl (by decide +kernel) ⟨Nat.le_of_ble_eq_true rfl, Nat.le_of_ble_eq_true rfl⟩) (kq_preS (kq_st_r.both kq_st_r) (⟨hs1, hsm⟩)) rfl rfl hl.1 rfl (lv_room (Nat.le_of_ble_eq_true rfl)) d_Mo_below_30 ⟨Nat.zero_le _, Nat.zero_le _⟩) (fun v9 H9 L2 hq9 hL2 => ?_)
    obtain ⟨rfl, e9⟩ := hq9
    rw [e9]
    clear e9
    refine W.eq (g2 := F0 m 33 ls [.int (kx_cmp (v (mo + 2 + kx3 i)) (kx_m false))]) rfl ?_
    have hlc2 := t_lL (free := fun q => q = r) hlc1 (fun q z => (hL2 q z).elim)
    refine lv_if_lt hx hb d_Mo_below_33 rfl (fun hcc => ?_) (fun hcc => ?_)
    · rw [if_pos (kx_cmp_lt.mp hcc)] at key
      refine W.vret hx hb hret (fun t ht _ => ⟨_, rfl, rfl, ?_⟩) hlc2 d_Mo_below_44
      rw [ht, ← key]
      exact hW1
    · rw [if_neg (fun q => hcc (kx_cmp_lt.mpr q))] at key
      refine lv_aload_n hx hb d_Mo_below_36 rfl (lv_at hl 2 rfl) ?_
      refine lv_aload_n hx hb d_Mo_below_37 rfl (lv_at hl 2 rfl) ?_
      refine lv_aload hx hb d_Mo_below_38 (lv_at hl 0 rfl) ?_
      refine kq_call (va_runS (As := [.ref r, .ref r, .ref (A 0)]) (rest := []) ⟨hx, hb, hml, hown, hts⟩ (c_Mo_sub l _ (ks_c E) r r (A 0) (v (mo + 2 + kx3 i)) (v (mo + 2 + kx3 i)) (kx_m false) hlr hlr hlm hr1) (va_cwS 3 hts (kt_inS kt_w475 kt_w473 kt_w474 kt_w5) rfl rfl rfl (by decide +kernel) ⟨Nat.le_of_ble_eq_true rfl, Nat.le_of_ble_eq_true rfl⟩) (kq_preS (kq_st_A.both (kq_st_r.both kq_st_r)) (⟨hT, hs1, hsm⟩)) rfl rfl hl.1 rfl (lv_room (Nat.le_of_ble_eq_true rfl)) d_Mo_below_40 ⟨Nat.zero_le _, Nat.zero_le _⟩) (fun v9 H9 L3 hq9 hL3 => ?_)
      obtain ⟨rfl, rfl⟩ := hq9
      refine W.eq (g2 := F0 m 43 ls [.int (nI (18446744073709551616 - (if v (mo + 2 + kx3 i) < kx_m false then 1 else 0)))]) rfl ?_
      refine kq_rH (kq_set_set _ _ _ _) ?_
      refine lv_pop hx hb d_Mo_below_43 rfl ?_
      refine W.vret hx hb hret (fun t ht _ => ⟨_, rfl, rfl, ?_⟩) (t_lL (free := fun q => q = r) hlc2 hL3) d_Mo_below_44
      rw [ht, ← key]
      exact ks_put hE hW hr (kw_sub_lt _ _)
  · have hd := kq_z_b1 hc0
    subst hd
    refine kq_gets hx hb hts (ks_zat hW1 hC.2.2.1) hown kt_w451 d_Mo_below_16 ?_
    refine lv_goto hx hb d_Mo_below_19 rfl ?_
    refine lv_astore hx hb d_Mo_below_25 hl (by decide) rfl (fun ls hl => ?_)
    have hl : lv_has ls 5 [(4, .ref (A 1)), (0, .ref mo), (1, .ref r), (2, .int i), (3, .int (kq_z true))] := hl
    refine lv_aload_n hx hb d_Mo_below_27 rfl (lv_at hl 2 rfl) ?_
    refine lv_aload hx hb d_Mo_below_28 (lv_at hl 0 rfl) ?_
    refine kq_call (va_runS (As := [.ref r, .ref (A 1)]) (rest := []) ⟨hx, hb, hml, hown, hts⟩ (c_Mo_compare l _ r (A 1) (v (mo + 2 + kx3 i)) (kx_m true) hlr hlm) (va_cwS 2 hts (kt_inS kt_w465 kt_w463 kt_w464 kt_w5) rfl rfl rfl (by decide +kernel) ⟨Nat.le_of_ble_eq_true rfl, Nat.le_of_ble_eq_true rfl⟩) (kq_preS (kq_st_r.both kq_st_r) (⟨hs1, hsm⟩)) rfl rfl hl.1 rfl (lv_room (Nat.le_of_ble_eq_true rfl)) d_Mo_below_30 ⟨Nat.zero_le _, Nat.zero_le _⟩) (fun v9 H9 L2 hq9 hL2 => ?_)
    obtain ⟨rfl, e9⟩ := hq9
    rw [e9]
    clear e9
    refine W.eq (g2 := F0 m 33 ls [.int (kx_cmp (v (mo + 2 + kx3 i)) (kx_m true))]) rfl ?_
    have hlc2 := t_lL (free := fun q => q = r) hlc1 (fun q z => (hL2 q z).elim)
    refine lv_if_lt hx hb d_Mo_below_33 rfl (fun hcc => ?_) (fun hcc => ?_)
    · rw [if_pos (kx_cmp_lt.mp hcc)] at key
      refine W.vret hx hb hret (fun t ht _ => ⟨_, rfl, rfl, ?_⟩) hlc2 d_Mo_below_44
      rw [ht, ← key]
      exact hW1
    · rw [if_neg (fun q => hcc (kx_cmp_lt.mpr q))] at key
      refine lv_aload_n hx hb d_Mo_below_36 rfl (lv_at hl 2 rfl) ?_
      refine lv_aload_n hx hb d_Mo_below_37 rfl (lv_at hl 2 rfl) ?_
      refine lv_aload hx hb d_Mo_below_38 (lv_at hl 0 rfl) ?_
      refine kq_call (va_runS (As := [.ref r, .ref r, .ref (A 1)]) (rest := []) ⟨hx, hb, hml, hown, hts⟩ (c_Mo_sub l _ (ks_c E) r r (A 1) (v (mo + 2 + kx3 i)) (v (mo + 2 + kx3 i)) (kx_m true) hlr hlr hlm hr1) (va_cwS 3 hts (kt_inS kt_w475 kt_w473 kt_w474 kt_w5) rfl rfl rfl (by decide +kernel) ⟨Nat.le_of_ble_eq_true rfl, Nat.le_of_ble_eq_true rfl⟩) (kq_preS (kq_st_A.both (kq_st_r.both kq_st_r)) (⟨hT, hs1, hsm⟩)) rfl rfl hl.1 rfl (lv_room (Nat.le_of_ble_eq_true rfl)) d_Mo_below_40 ⟨Nat.zero_le _, Nat.zero_le _⟩) (fun v9 H9 L3 hq9 hL3 => ?_)
      obtain ⟨rfl, rfl⟩ := hq9
      refine W.eq (g2 := F0 m 43 ls [.int (nI (18446744073709551616 - (if v (mo + 2 + kx3 i) < kx_m true then 1 else 0)))]) rfl ?_
      refine kq_rH (kq_set_set _ _ _ _) ?_
      refine lv_pop hx hb d_Mo_below_43 rfl ?_
      refine W.vret hx hb hret (fun t ht _ => ⟨_, rfl, rfl, ?_⟩) (t_lL (free := fun q => q = r) hlc2 hL3) d_Mo_below_44
      rw [ht, ← key]
      exact ks_put hE hW hr (kw_sub_lt _ _)
