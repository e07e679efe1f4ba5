/-! KeyCurve$Prime: its world; trim, sum, difference (own rows). -/
/-- a Prime's object at h: its prime m with the gap G of gw words, its rows behind it -/
def kr_P (E : kr_E) (h pa ga gw mm G : Nat) : Prop := va_P (kr_D E) kr_cl [(h, .inr (1, [.ref pa, .ref ga, .int (nI gw), .ref (h + 6), .ref (h + 1), .ref (h + 2), .ref (h + 3), .ref (h + 4), .ref (h + 5)]))] (kr_H E) ∧ ¬ kr_L E h ∧ (kr_S E pa ∧ kr_v E pa = mm) ∧ (kr_S E ga ∧ kr_v E ga = G) ∧ kp_ok mm G ∧ pm_prime mm ∧ (G < kw_M gw ∧ gw ≤ 8) ∧ (kr_S E (h + 6) ∧ kr_v E (h + 6) = mm - 2) ∧ (kr_L E (h + 1) ∧ kr_n E (h + 1) = 16) ∧ kr_out E (h + 2) ∧ kr_out E (h + 3) ∧ kr_out E (h + 4) ∧ kr_out E (h + 5)
theorem kr_P.prime {E : kr_E} {h pa ga gw mm G : Nat} {v : Nat → Nat} {H : Heap} (hP : kr_P E h pa ga gw mm G) (hW : kr_W E v H) : v pa = mm := by
  rw [hW.2.2.2.2 pa hP.2.2.1.1]
  exact hP.2.2.1.2
theorem kr_P.gap {E : kr_E} {h pa ga gw mm G : Nat} {v : Nat → Nat} {H : Heap} (hP : kr_P E h pa ga gw mm G) (hW : kr_W E v H) : v ga = G := by
  rw [hW.2.2.2.2 ga hP.2.2.2.1.1]
  exact hP.2.2.2.1.2
theorem kq_cz {x y : Nat} (hx : x < kw_M 8) (hy : y < kw_M 8) : lg_cmp (lN ((x + y) / kw_M 8)) (lN 0) = 0 ↔ (x + y) / kw_M 8 = 0 := by
  have h : (x + y) / kw_M 8 < 2 := Nat.div_lt_of_lt_mul (by omega)
  exact kq_cmp_eq (by omega) (by decide)
theorem d_Pr_trim_0 : decode b_Pr_trim 0 = .ok (.aload_n 1, 1) := by decide +kernel
theorem d_Pr_trim_1 : decode b_Pr_trim 1 = .ok (.aload_n 0, 1) := by decide +kernel
theorem d_Pr_trim_2 : decode b_Pr_trim 2 = .ok (.getfield 27, 3) := by decide +kernel
theorem d_Pr_trim_5 : decode b_Pr_trim 5 = .ok (.invokestatic 93, 3) := by decide +kernel
theorem d_Pr_trim_8 : decode b_Pr_trim 8 = .ok (.ifCond .ne 13, 3) := by decide +kernel
theorem d_Pr_trim_11 : decode b_Pr_trim 11 = .ok (.aload_n 1, 1) := by decide +kernel
theorem d_Pr_trim_12 : decode b_Pr_trim 12 = .ok (.aload_n 1, 1) := by decide +kernel
theorem d_Pr_trim_13 : decode b_Pr_trim 13 = .ok (.aload_n 0, 1) := by decide +kernel
theorem d_Pr_trim_14 : decode b_Pr_trim 14 = .ok (.getfield 27, 3) := by decide +kernel
theorem d_Pr_trim_17 : decode b_Pr_trim 17 = .ok (.invokestatic 57, 3) := by decide +kernel
theorem d_Pr_trim_20 : decode b_Pr_trim 20 = .ok (.pop2, 1) := by decide +kernel
theorem d_Pr_trim_21 : decode b_Pr_trim 21 = .ok (.return_, 1) := by decide +kernel
set_option maxHeartbeats 4000000 in
set_option maxRecDepth 100000 in
theorem c_Pr_trim (l : Launch) (E : kr_E) (h pa ga gw mm G : Nat) (v : Nat → Nat) (H : Heap) (hE : kr_ok E) (hP : kr_P E h pa ga gw mm G) (hW : kr_W E v H) (r : Nat) (hr : kr_out E r) : Met l y_Pr_trim w_Pr_trim ({ frames := 1, cells := 0, slots := 0, locals := 27 }) (kq_P [.ref h, .ref r] H (kr_B E)) (kq_Q (fun o H1 => o = none ∧ kr_W E (va_up v r (v r % mm)) H1)) 0 0 (fun q => q = r) := by
  refine Met.ofW (cc := b_Pr_trim) (maxL := 2) (ret := none) (by decide) rfl ?_
  intro p e s m args below meth c s₁ B0 hml hv
  obtain ⟨rfl, hH, hB⟩ := hv
  have hx := B0.exec
  have hb := B0.bytes
  have hret := B0.returns
  have hts := atoms_spec (ws := w_Pr_trim) B0.pre
  have hown : s.vm.findClass R_Pr = some m.cls := findClass_of_methodNamed B0.named
  have hlocks := B0.notSynchronized
  rw [hH]
  have hl := lv_entry ([.ref h, .ref r]) (n := 2) (Nat.le_of_ble_eq_true rfl)
  rw [lg_entry_eq]
  generalize (lg_sl ([.ref h, .ref r]) ++ List.replicate (2 - (lg_sl ([.ref h, .ref r])).length) Slot.unset).toArray = ls at hl ⊢
  have hl : lv_has ls 2 [(0, .ref h), (1, .ref r)] := hl
  have hT := kr_T hE hB
  have hK := hB.1
  have hO := kr_obj hW hP.1 hP.2.1
  have hvp := hP.prime hW
  have hsr := kr_src hE hW hB (Or.inl hr)
  have hsp := kr_src hE hW hB (Or.inr hP.2.2.1.1)
  have hlr := kr_lt hE hW (Or.inl hr)
  have hlp := kr_lt hE hW (Or.inr hP.2.2.1.1)
  rw [hvp] at hsp hlp
  have htr := kp_trim hP.2.2.2.2.1 hlr
  refine lv_aload_n hx hb d_Pr_trim_0 rfl (lv_at hl 1 rfl) ?_
  refine lv_aload_n hx hb d_Pr_trim_1 rfl (lv_at hl 0 rfl) ?_
  refine kq_get hx hb hts kt_F_Pr hown hK hO rfl 0 (by decide) kt_w61 rfl d_Pr_trim_2 ?_
  refine kq_call (va_runS (As := [.ref r, .ref pa]) (rest := []) ⟨hx, hb, hml, hown, hts⟩ (c_Wo_isBelow l H r pa (v r) mm hlr hlp) (va_cwS 2 hts (kt_inS kt_w187 kt_w185 kt_w186 kt_w6) rfl rfl rfl (by decide +kernel) ⟨Nat.le_of_ble_eq_true rfl, Nat.le_of_ble_eq_true rfl⟩) (kq_preS (kq_st_r.both kq_st_r) (⟨hsr, hsp⟩)) rfl rfl hl.1 rfl (lv_room (Nat.le_of_ble_eq_true rfl)) d_Pr_trim_5 ⟨Nat.zero_le _, Nat.zero_le _⟩) (fun v9 H9 L9 hq9 hL9 => ?_)
  obtain ⟨rfl, e9⟩ := hq9
  rw [e9]
  clear e9
  refine W.eq (g2 := F0 m 8 ls [.int (kq_z (decide (v r < mm)))]) rfl ?_
  refine lv_if_ne hx hb d_Pr_trim_8 rfl (fun hc => ?_) (fun hc => ?_)
  · have hlt : v r < mm := kq_z_ne.mp hc
    rw [if_pos hlt] at htr
    refine W.vret hx hb hret (fun t ht _ => ⟨_, rfl, rfl, ?_⟩) (fun q h => (hL9 q h).elim) d_Pr_trim_21
    rw [ht]
    refine kr_same (fun a => ?_) hW
    by_cases e : a = r
    · subst e
      rw [kq_up_at, ← htr]
    · rw [kq_up_ne e]
  · have hge : ¬ v r < mm := kq_z_eq.mp hc
    rw [if_neg hge] at htr
    refine lv_aload_n hx hb d_Pr_trim_11 rfl (lv_at hl 1 rfl) ?_
    refine lv_aload_n hx hb d_Pr_trim_12 rfl (lv_at hl 1 rfl) ?_
    refine lv_aload_n hx hb d_Pr_trim_13 rfl (lv_at hl 0 rfl) ?_
    refine kq_get hx hb hts kt_F_Pr hown hK hO rfl 0 (by decide) kt_w61 rfl d_Pr_trim_14 ?_
    refine kq_call (va_runS (As := [.ref r, .ref r, .ref pa]) (rest := []) ⟨hx, hb, hml, hown, hts⟩ (c_Wo_differenceInto l (kr_c E) H r r pa (v r) (v r) mm hlr hlr hlp (kr_row hW hr)) (va_cwS 3 hts (kt_inS kt_w190 kt_w188 kt_w189 kt_w6) rfl rfl rfl (by decide +kernel) ⟨Nat.le_of_ble_eq_true rfl, Nat.le_of_ble_eq_true rfl⟩) (kq_preS (kq_st_A.both (kq_st_r.both kq_st_r)) (⟨hT, hsr, hsp⟩)) rfl rfl hl.1 rfl (lv_room (Nat.le_of_ble_eq_true rfl)) d_Pr_trim_17 ⟨Nat.zero_le _, Nat.zero_le _⟩) (fun v8 H8 L8 hq8 hL8 => ?_)
    obtain ⟨rfl, rfl⟩ := hq8
    refine W.eq (g2 := F0 m 20 ls [.long (lN (if v r < mm then 1 else 0))]) rfl ?_
    refine lv_pop2_2 hx hb d_Pr_trim_20 rfl ?_
    refine W.vret hx hb hret (fun t ht _ => ⟨_, rfl, rfl, ?_⟩) (t_lL (free := fun q => q = r) (fun q h => (hL9 q h).elim) hL8) d_Pr_trim_21
    rw [ht, htr]
    exact kr_put hE hW hr (Nat.lt_trans (Nat.mod_lt _ (by have := hP.2.2.2.2.2.1.1; omega)) hlp)
section
variable {p : Program} {l : Launch} {e : Env} {R : Room} {s : State} {m : MethodId} {args : Array Value} {below : List Frame} {meth : Method} {c : Code} {cells slots : Nat} {Q : State → Prop}
set_option maxHeartbeats 4000000 in
set_option maxRecDepth 100000 in
theorem kr_trimEnd {y : Cond} {cc : ByteArray} {pc nL k0 k1 : Nat} {ls : Array Slot} {locs : List Loc} {E : kr_E} {h pa ga gw mm G r : Nat} {v : Nat → Nat} {H : Heap} (hx : p.tables.exec = Jvm.exec) (hb : c.code = cc) (hts : ∀ w ∈ y :: kt_all, w.before args s = true) (hown : s.vm.findClass R_Pr = some m.cls) (hml : c.maxLocals = nL) (hE : kr_ok E) (hP : kr_P E h pa ga gw mm G) (hW : kr_W E v H) (hB : kr_B E s) (hr : kr_out E r) (hRf : 2 ≤ R.frames) (hRl : 48 ≤ R.locals) {lv : List (Nat × Value)} (hl : lv_has ls nL lv) (h0 : lv[k0]? = some (0, .ref h)) (h1 : lv[k1]? = some (1, .ref r))
    (d0 : decode cc pc = .ok (.aload_n 0, 1)) (d1 : decode cc (pc + 1) = .ok (.aload_n 1, 1)) (d2 : decode cc (pc + 2) = .ok (.invokevirtual 53, 3))
    (kk : ∀ (H1 : Heap) (L : List Loc), kr_W E (va_up v r (v r % mm)) H1 → (∀ q ∈ L, q.base = r) → W p l e R s m args below meth c H1 (locs ++ L) 0 0 Q (F0 m (pc + 5) ls [])) : W p l e R s m args below meth c H locs 0 0 Q (F0 m pc ls []) := by
  refine lv_aload_n hx hb d0 rfl (lv_at hl k0 h0) ?_
  refine lv_aload_n hx hb d1 rfl (lv_at hl k1 h1) ?_
  refine kq_call (va_runV (As := [.ref r]) (rest := []) ⟨hx, hb, hml, hown, hts⟩ (c_Pr_trim l E h pa ga gw mm G v H hE hP hW r hr) (cwV 1 hts (kt_inV kt_w184 kt_w181 kt_w182 kt_w183 kt_w3) rfl rfl rfl (by decide +kernel) ⟨Nat.le_trans (Nat.le_of_ble_eq_true rfl) hRf, Nat.le_trans (Nat.le_of_ble_eq_true rfl) hRl⟩) (kq_preV (kr_st E) hB (kq_recv hB.1 (kr_obj hW hP.1 hP.2.1) rfl)) rfl rfl hl.1 rfl (lv_room (Nat.le_of_ble_eq_true rfl)) d2 ⟨Nat.zero_le _, Nat.zero_le _⟩) (fun v9 H9 L9 hq9 hL9 => ?_)
  obtain ⟨rfl, hW9⟩ := hq9
  exact kk H9 L9 hW9 hL9
end
theorem d_Pr_sum_0 : decode b_Pr_sum 0 = .ok (.aload_n 1, 1) := by decide +kernel
theorem d_Pr_sum_1 : decode b_Pr_sum 1 = .ok (.aload_n 2, 1) := by decide +kernel
theorem d_Pr_sum_2 : decode b_Pr_sum 2 = .ok (.aload_n 3, 1) := by decide +kernel
theorem d_Pr_sum_3 : decode b_Pr_sum 3 = .ok (.invokestatic 47, 3) := by decide +kernel
theorem d_Pr_sum_6 : decode b_Pr_sum 6 = .ok (.lstore 4, 2) := by decide +kernel
theorem d_Pr_sum_8 : decode b_Pr_sum 8 = .ok (.iconst 0, 1) := by decide +kernel
theorem d_Pr_sum_9 : decode b_Pr_sum 9 = .ok (.istore 6, 2) := by decide +kernel
theorem d_Pr_sum_11 : decode b_Pr_sum 11 = .ok (.iload 6, 2) := by decide +kernel
theorem d_Pr_sum_13 : decode b_Pr_sum 13 = .ok (.iconst 2, 1) := by decide +kernel
theorem d_Pr_sum_14 : decode b_Pr_sum 14 = .ok (.if_icmp .ge 27, 3) := by decide +kernel
theorem d_Pr_sum_17 : decode b_Pr_sum 17 = .ok (.lload 4, 2) := by decide +kernel
theorem d_Pr_sum_19 : decode b_Pr_sum 19 = .ok (.lconst 0, 1) := by decide +kernel
theorem d_Pr_sum_20 : decode b_Pr_sum 20 = .ok (.lcmp, 1) := by decide +kernel
theorem d_Pr_sum_21 : decode b_Pr_sum 21 = .ok (.ifCond .eq 20, 3) := by decide +kernel
theorem d_Pr_sum_24 : decode b_Pr_sum 24 = .ok (.aload_n 1, 1) := by decide +kernel
theorem d_Pr_sum_25 : decode b_Pr_sum 25 = .ok (.aload_n 1, 1) := by decide +kernel
theorem d_Pr_sum_26 : decode b_Pr_sum 26 = .ok (.aload_n 0, 1) := by decide +kernel
theorem d_Pr_sum_27 : decode b_Pr_sum 27 = .ok (.getfield 30, 3) := by decide +kernel
theorem d_Pr_sum_30 : decode b_Pr_sum 30 = .ok (.invokestatic 47, 3) := by decide +kernel
theorem d_Pr_sum_33 : decode b_Pr_sum 33 = .ok (.lstore 4, 2) := by decide +kernel
theorem d_Pr_sum_35 : decode b_Pr_sum 35 = .ok (.iinc 6 1, 3) := by decide +kernel
theorem d_Pr_sum_38 : decode b_Pr_sum 38 = .ok (.goto (-27), 3) := by decide +kernel
theorem d_Pr_sum_41 : decode b_Pr_sum 41 = .ok (.aload_n 0, 1) := by decide +kernel
theorem d_Pr_sum_42 : decode b_Pr_sum 42 = .ok (.aload_n 1, 1) := by decide +kernel
theorem d_Pr_sum_43 : decode b_Pr_sum 43 = .ok (.invokevirtual 53, 3) := by decide +kernel
theorem d_Pr_sum_46 : decode b_Pr_sum 46 = .ok (.return_, 1) := by decide +kernel
set_option maxHeartbeats 4000000 in
set_option maxRecDepth 100000 in
theorem c_Pr_sum (l : Launch) (E : kr_E) (h pa ga gw mm G : Nat) (v : Nat → Nat) (H : Heap) (hE : kr_ok E) (hP : kr_P E h pa ga gw mm G) (hW : kr_W E v H) (r a b : Nat) (hr : kr_out E r) (ha : kr_in E a) (hb0 : kr_in E b) : Met l y_Pr_sum w_Pr_sum ({ frames := 2, cells := 0, slots := 0, locals := 48 }) (kq_P [.ref h, .ref r, .ref a, .ref b] H (kr_B E)) (kq_Q (fun o H1 => o = none ∧ kr_W E (va_up v r ((v a + v b) % mm)) H1)) 0 0 (fun q => q = r) := by
  refine Met.ofW (cc := b_Pr_sum) (maxL := 7) (ret := none) (by decide) rfl ?_
  intro p e s m args below meth c s₁ B0 hml hv
  obtain ⟨rfl, hH, hB⟩ := hv
  have hx := B0.exec
  have hb := B0.bytes
  have hret := B0.returns
  have hts := atoms_spec (ws := w_Pr_sum) B0.pre
  have hown : s.vm.findClass R_Pr = some m.cls := findClass_of_methodNamed B0.named
  have hlocks := B0.notSynchronized
  rw [hH]
  have hl := lv_entry ([.ref h, .ref r, .ref a, .ref b]) (n := 7) (Nat.le_of_ble_eq_true rfl)
  rw [lg_entry_eq]
  generalize (lg_sl ([.ref h, .ref r, .ref a, .ref b]) ++ List.replicate (7 - (lg_sl ([.ref h, .ref r, .ref a, .ref b])).length) Slot.unset).toArray = ls at hl ⊢
  have hl : lv_has ls 7 [(0, .ref h), (1, .ref r), (2, .ref a), (3, .ref b)] := hl
  have hT := kr_T hE hB
  have hK := hB.1
  have hvg := hP.gap hW
  have hok := hP.2.2.2.2.1
  have hsa := kr_src hE hW hB ha
  have hsb := kr_src hE hW hB hb0
  have hla := kr_lt hE hW ha
  have hlb := kr_lt hE hW hb0
  have hlr := kr_lt hE hW (Or.inl hr)
  have hlg := kr_lt hE hW (Or.inr hP.2.2.2.1.1)
  rw [hvg] at hlg
  have hrr := kr_row hW hr
  have hend : ∀ (V : Nat) (H1 : Heap) (ls : Array Slot) (L : List Loc), V < kw_M 8 → V % mm = (v a + v b) % mm → H1 = kq_set H r (kq_L (kr_c E) 8 V) → (∀ q ∈ L, q.base = r) → lv_has ls 7 [(0, .ref h), (1, .ref r)] → W p l e (headSpec w_Pr_sum ({ frames := 2, cells := 0, slots := 0, locals := 48 })).room s m [.ref h, .ref r, .ref a, .ref b].toArray below meth c H1 L 0 0 (MQ below (kq_Q (fun o H1 => o = none ∧ kr_W E (va_up v r ((v a + v b) % mm)) H1)) [.ref h, .ref r, .ref a, .ref b].toArray s 0 0 (fun q => q = r)) (F0 m 41 ls []) := by
    intro V H1 ls L hV hVm hH1 hL hl
    subst hH1
    have hW1 := kr_put hE hW hr hV
    refine kr_trimEnd (k0 := 0) (k1 := 1) hx hb hts hown hml hE hP hW1 hB hr (Nat.le_of_ble_eq_true rfl) (Nat.le_of_ble_eq_true rfl) hl rfl rfl d_Pr_sum_41 d_Pr_sum_42 d_Pr_sum_43 (fun H2 L2 hW2 hL2 => ?_)
    refine W.vret hx hb hret (fun t ht _ => ⟨_, rfl, rfl, ?_⟩) (t_lL (free := fun q => q = r) hL hL2) d_Pr_sum_46
    rw [ht]
    refine kr_same (fun q => ?_) hW2
    by_cases e : q = r
    · subst e
      rw [kq_up_at, kq_up_at, kq_up_at, hVm]
    · rw [kq_up_ne e, kq_up_ne e, kq_up_ne e]
  refine lv_aload_n hx hb d_Pr_sum_0 rfl (lv_at hl 1 rfl) ?_
  refine lv_aload_n hx hb d_Pr_sum_1 rfl (lv_at hl 2 rfl) ?_
  refine lv_aload_n hx hb d_Pr_sum_2 rfl (lv_at hl 3 rfl) ?_
  refine kq_call (va_runS (As := [.ref r, .ref a, .ref b]) (rest := []) ⟨hx, hb, hml, hown, hts⟩ (c_Wo_sumInto l (kr_c E) H r a b (v r) (v a) (v b) hlr hla hlb hrr) (va_cwS 3 hts (kt_inS kt_w179 kt_w177 kt_w178 kt_w6) rfl rfl rfl (by decide +kernel) ⟨Nat.le_of_ble_eq_true rfl, Nat.le_of_ble_eq_true rfl⟩) (kq_preS (kq_st_A.both (kq_st_r.both kq_st_r)) (⟨hT, hsa, hsb⟩)) rfl rfl hl.1 rfl (lv_room (Nat.le_of_ble_eq_true rfl)) d_Pr_sum_3 ⟨Nat.zero_le _, Nat.zero_le _⟩) (fun v9 H9 L9 hq9 hL9 => ?_)
  obtain ⟨rfl, rfl⟩ := hq9
  refine W.eq (g2 := F0 m 6 ls [.long (lN ((v a + v b) / kw_M 8))]) rfl ?_
  refine lv_lstore hx hb d_Pr_sum_6 hl (by decide) rfl (fun ls hl => ?_)
  have hl : lv_has ls 7 [(4, .long (lN ((v a + v b) / kw_M 8))), (0, .ref h), (1, .ref r), (2, .ref a), (3, .ref b)] := hl
  refine lv_iconst (v := nI 0) hx hb d_Pr_sum_8 (by decide) ?_
  refine lv_istore hx hb d_Pr_sum_9 hl (by decide) rfl (fun ls hl => ?_)
  have hl : lv_has ls 7 [(6, .int (nI 0)), (4, .long (lN ((v a + v b) / kw_M 8))), (0, .ref h), (1, .ref r), (2, .ref a), (3, .ref b)] := hl
  have hV0 : (v a + v b) % kw_M 8 < kw_M 8 := Nat.mod_lt _ (kw_M_pos 8)
  refine lv_iload hx hb d_Pr_sum_11 (lv_at hl 0 rfl) ?_
  refine lv_iconst (v := nI 2) hx hb d_Pr_sum_13 (by decide) ?_
  refine lv_icmp_ge hx hb d_Pr_sum_14 rfl (fun hc => ?_) (fun hc => ?_)
  · exact absurd hc (nI_ge (by decide) (by decide))
  · refine lv_lload hx hb d_Pr_sum_17 (lv_at hl 1 rfl) ?_
    refine lv_lconst (v := lN 0) hx hb d_Pr_sum_19 (by decide) ?_
    refine W.lcmp hx hb d_Pr_sum_20 ?_
    refine lv_if_eq hx hb d_Pr_sum_21 rfl (fun hc0 => ?_) (fun hc0 => ?_)
    · have z0 : (v a + v b) / kw_M 8 = 0 := (kq_cz hla hlb).mp hc0
      exact hend _ _ ls L9 hV0 (by
              have q := kp_sum_eq hok hla hlb
              unfold kp_sum at q
              rw [if_pos z0] at q
              exact q) rfl hL9 (lv_sub hl [2, 3] rfl)
    · have z0 : ¬ (v a + v b) / kw_M 8 = 0 := fun q => hc0 ((kq_cz hla hlb).mpr q)
      have hW0 := kr_put hE hW hr hV0
      have hO := kr_obj hW0 hP.1 hP.2.1
      have hrr0 := kr_row hW0 hr
      have hsr0 := kr_src hE hW0 hB (Or.inl hr)
      have hsg0 := kr_src hE hW0 hB (Or.inr hP.2.2.2.1.1)
      have hvg0 := hP.gap hW0
      rw [hvg0] at hsg0
      rw [kq_up_at] at hsr0 hrr0
      refine lv_aload_n hx hb d_Pr_sum_24 rfl (lv_at hl 3 rfl) ?_
      refine lv_aload_n hx hb d_Pr_sum_25 rfl (lv_at hl 3 rfl) ?_
      refine lv_aload_n hx hb d_Pr_sum_26 rfl (lv_at hl 2 rfl) ?_
      refine kq_get hx hb hts kt_F_Pr hown hK hO rfl 1 (by decide) kt_w62 rfl d_Pr_sum_27 ?_
      refine kq_call (va_runS (As := [.ref r, .ref r, .ref ga]) (rest := []) ⟨hx, hb, hml, hown, hts⟩ (c_Wo_sumInto l (kr_c E) (kq_set H r (kq_L (kr_c E) 8 ((v a + v b) % kw_M 8))) r r ga ((v a + v b) % kw_M 8) ((v a + v b) % kw_M 8) G hV0 hV0 hlg hrr0) (va_cwS 3 hts (kt_inS kt_w179 kt_w177 kt_w178 kt_w6) rfl rfl rfl (by decide +kernel) ⟨Nat.le_of_ble_eq_true rfl, Nat.le_of_ble_eq_true rfl⟩) (kq_preS (kq_st_A.both (kq_st_r.both kq_st_r)) (⟨hT, hsr0, hsg0⟩)) rfl rfl hl.1 rfl (lv_room (Nat.le_of_ble_eq_true rfl)) d_Pr_sum_30 ⟨Nat.zero_le _, Nat.zero_le _⟩) (fun v1 H1 L1 hq1 hL1 => ?_)
      obtain ⟨rfl, rfl⟩ := hq1
      refine W.eq (g2 := F0 m 33 ls [.long (lN (((v a + v b) % kw_M 8 + G) / kw_M 8))]) rfl ?_
      refine kq_rH (kq_set_set _ _ _ _) ?_
      have hV1 : ((v a + v b) % kw_M 8 + G) % kw_M 8 < kw_M 8 := Nat.mod_lt _ (kw_M_pos 8)
      refine lv_lstore hx hb d_Pr_sum_33 hl (by decide) rfl (fun ls hl => ?_)
      have hl : lv_has ls 7 [(4, .long (lN (((v a + v b) % kw_M 8 + G) / kw_M 8))), (6, .int (nI 0)), (0, .ref h), (1, .ref r), (2, .ref a), (3, .ref b)] := hl
      refine lv_iinc (k := 1) (v := nI 1) hx hb d_Pr_sum_35 hl rfl (by decide) (by decide) rfl (fun ls hl => ?_)
      have hl : lv_has ls 7 [(6, .int (nI 1)), (4, .long (lN (((v a + v b) % kw_M 8 + G) / kw_M 8))), (0, .ref h), (1, .ref r), (2, .ref a), (3, .ref b)] := hl
      refine lv_goto hx hb d_Pr_sum_38 rfl ?_
      refine lv_iload hx hb d_Pr_sum_11 (lv_at hl 0 rfl) ?_
      refine lv_iconst (v := nI 2) hx hb d_Pr_sum_13 (by decide) ?_
      refine lv_icmp_ge hx hb d_Pr_sum_14 rfl (fun hc => ?_) (fun hc => ?_)
      · exact absurd hc (nI_ge (by decide) (by decide))
      · refine lv_lload hx hb d_Pr_sum_17 (lv_at hl 1 rfl) ?_
        refine lv_lconst (v := lN 0) hx hb d_Pr_sum_19 (by decide) ?_
        refine W.lcmp hx hb d_Pr_sum_20 ?_
        refine lv_if_eq hx hb d_Pr_sum_21 rfl (fun hc1 => ?_) (fun hc1 => ?_)
        · have z1 : ((v a + v b) % kw_M 8 + G) / kw_M 8 = 0 := (kq_cz hV0 hlg).mp hc1
          exact hend _ _ ls _ hV1 (by
                  have q := kp_sum_eq hok hla hlb
                  unfold kp_sum at q
                  rw [if_neg z0, if_pos z1] at q
                  exact q) rfl (t_lL (free := fun q => q = r) hL9 hL1) (lv_sub hl [2, 3] rfl)
        · have z1 : ¬ ((v a + v b) % kw_M 8 + G) / kw_M 8 = 0 := fun q => hc1 ((kq_cz hV0 hlg).mpr q)
          have hW1 := kr_put hE hW hr hV1
          have hO := kr_obj hW1 hP.1 hP.2.1
          have hrr1 := kr_row hW1 hr
          have hsr1 := kr_src hE hW1 hB (Or.inl hr)
          have hsg1 := kr_src hE hW1 hB (Or.inr hP.2.2.2.1.1)
          have hvg1 := hP.gap hW1
          rw [hvg1] at hsg1
          rw [kq_up_at] at hsr1 hrr1
          refine lv_aload_n hx hb d_Pr_sum_24 rfl (lv_at hl 3 rfl) ?_
          refine lv_aload_n hx hb d_Pr_sum_25 rfl (lv_at hl 3 rfl) ?_
          refine lv_aload_n hx hb d_Pr_sum_26 rfl (lv_at hl 2 rfl) ?_
          refine kq_get hx hb hts kt_F_Pr hown hK hO rfl 1 (by decide) kt_w62 rfl d_Pr_sum_27 ?_
          refine kq_call (va_runS (As := [.ref r, .ref r, .ref ga]) (rest := []) ⟨hx, hb, hml, hown, hts⟩ (c_Wo_sumInto l (kr_c E) (kq_set H r (kq_L (kr_c E) 8 (((v a + v b) % kw_M 8 + G) % kw_M 8))) r r ga (((v a + v b) % kw_M 8 + G) % kw_M 8) (((v a + v b) % kw_M 8 + G) % kw_M 8) G hV1 hV1 hlg hrr1) (va_cwS 3 hts (kt_inS kt_w179 kt_w177 kt_w178 kt_w6) rfl rfl rfl (by decide +kernel) ⟨Nat.le_of_ble_eq_true rfl, Nat.le_of_ble_eq_true rfl⟩) (kq_preS (kq_st_A.both (kq_st_r.both kq_st_r)) (⟨hT, hsr1, hsg1⟩)) rfl rfl hl.1 rfl (lv_room (Nat.le_of_ble_eq_true rfl)) d_Pr_sum_30 ⟨Nat.zero_le _, Nat.zero_le _⟩) (fun v2 H2 L2 hq2 hL2 => ?_)
          obtain ⟨rfl, rfl⟩ := hq2
          refine W.eq (g2 := F0 m 33 ls [.long (lN ((((v a + v b) % kw_M 8 + G) % kw_M 8 + G) / kw_M 8))]) rfl ?_
          refine kq_rH (kq_set_set _ _ _ _) ?_
          have hV2 : (((v a + v b) % kw_M 8 + G) % kw_M 8 + G) % kw_M 8 < kw_M 8 := Nat.mod_lt _ (kw_M_pos 8)
          refine lv_lstore hx hb d_Pr_sum_33 hl (by decide) rfl (fun ls hl => ?_)
          have hl : lv_has ls 7 [(4, .long (lN ((((v a + v b) % kw_M 8 + G) % kw_M 8 + G) / kw_M 8))), (6, .int (nI 1)), (0, .ref h), (1, .ref r), (2, .ref a), (3, .ref b)] := hl
          refine lv_iinc (k := 1) (v := nI 2) hx hb d_Pr_sum_35 hl rfl (by decide) (by decide) rfl (fun ls hl => ?_)
          have hl : lv_has ls 7 [(6, .int (nI 2)), (4, .long (lN ((((v a + v b) % kw_M 8 + G) % kw_M 8 + G) / kw_M 8))), (0, .ref h), (1, .ref r), (2, .ref a), (3, .ref b)] := hl
          refine lv_goto hx hb d_Pr_sum_38 rfl ?_
          refine lv_iload hx hb d_Pr_sum_11 (lv_at hl 0 rfl) ?_
          refine lv_iconst (v := nI 2) hx hb d_Pr_sum_13 (by decide) ?_
          refine lv_icmp_ge hx hb d_Pr_sum_14 rfl (fun hc => ?_) (fun hc => ?_)
          · exact hend _ _ ls _ hV2 (by
                    have q := kp_sum_eq hok hla hlb
                    unfold kp_sum at q
                    rw [if_neg z0, if_neg z1] at q
                    exact q) rfl (t_lL (free := fun q => q = r) (t_lL (free := fun q => q = r) hL9 hL1) hL2) (lv_sub hl [2, 3] rfl)
          · exact absurd (nI_le (Nat.le_refl 2) (by decide)) hc
theorem d_Pr_difference_0 : decode b_Pr_difference 0 = .ok (.aload_n 1, 1) := by decide +kernel
theorem d_Pr_difference_1 : decode b_Pr_difference 1 = .ok (.aload_n 2, 1) := by decide +kernel
theorem d_Pr_difference_2 : decode b_Pr_difference 2 = .ok (.aload_n 3, 1) := by decide +kernel
theorem d_Pr_difference_3 : decode b_Pr_difference 3 = .ok (.invokestatic 57, 3) := by decide +kernel
theorem d_Pr_difference_6 : decode b_Pr_difference 6 = .ok (.lstore 4, 2) := by decide +kernel
theorem d_Pr_difference_8 : decode b_Pr_difference 8 = .ok (.iconst 0, 1) := by decide +kernel
theorem d_Pr_difference_9 : decode b_Pr_difference 9 = .ok (.istore 6, 2) := by decide +kernel
theorem d_Pr_difference_11 : decode b_Pr_difference 11 = .ok (.iload 6, 2) := by decide +kernel
theorem d_Pr_difference_13 : decode b_Pr_difference 13 = .ok (.iconst 2, 1) := by decide +kernel
theorem d_Pr_difference_14 : decode b_Pr_difference 14 = .ok (.if_icmp .ge 27, 3) := by decide +kernel
theorem d_Pr_difference_17 : decode b_Pr_difference 17 = .ok (.lload 4, 2) := by decide +kernel
theorem d_Pr_difference_19 : decode b_Pr_difference 19 = .ok (.lconst 0, 1) := by decide +kernel
theorem d_Pr_difference_20 : decode b_Pr_difference 20 = .ok (.lcmp, 1) := by decide +kernel
theorem d_Pr_difference_21 : decode b_Pr_difference 21 = .ok (.ifCond .eq 20, 3) := by decide +kernel
theorem d_Pr_difference_24 : decode b_Pr_difference 24 = .ok (.aload_n 1, 1) := by decide +kernel
theorem d_Pr_difference_25 : decode b_Pr_difference 25 = .ok (.aload_n 1, 1) := by decide +kernel
theorem d_Pr_difference_26 : decode b_Pr_difference 26 = .ok (.aload_n 0, 1) := by decide +kernel
theorem d_Pr_difference_27 : decode b_Pr_difference 27 = .ok (.getfield 30, 3) := by decide +kernel
theorem d_Pr_difference_30 : decode b_Pr_difference 30 = .ok (.invokestatic 57, 3) := by decide +kernel
theorem d_Pr_difference_33 : decode b_Pr_difference 33 = .ok (.lstore 4, 2) := by decide +kernel
theorem d_Pr_difference_35 : decode b_Pr_difference 35 = .ok (.iinc 6 1, 3) := by decide +kernel
theorem d_Pr_difference_38 : decode b_Pr_difference 38 = .ok (.goto (-27), 3) := by decide +kernel
theorem d_Pr_difference_41 : decode b_Pr_difference 41 = .ok (.aload_n 0, 1) := by decide +kernel
theorem d_Pr_difference_42 : decode b_Pr_difference 42 = .ok (.aload_n 1, 1) := by decide +kernel
theorem d_Pr_difference_43 : decode b_Pr_difference 43 = .ok (.invokevirtual 53, 3) := by decide +kernel
theorem d_Pr_difference_46 : decode b_Pr_difference 46 = .ok (.return_, 1) := by decide +kernel
set_option maxHeartbeats 4000000 in
set_option maxRecDepth 100000 in
theorem c_Pr_difference (l : Launch) (E : kr_E) (h pa ga gw mm G : Nat) (v : Nat → Nat) (H : Heap) (hE : kr_ok E) (hP : kr_P E h pa ga gw mm G) (hW : kr_W E v H) (r a b : Nat) (hr : kr_out E r) (ha : kr_in E a) (hb0 : kr_in E b) : Met l y_Pr_difference w_Pr_difference ({ frames := 2, cells := 0, slots := 0, locals := 48 }) (kq_P [.ref h, .ref r, .ref a, .ref b] H (kr_B E)) (kq_Q (fun o H1 => o = none ∧ kr_W E (va_up v r (kp_dif mm (v a) (v b))) H1)) 0 0 (fun q => q = r) := by
  refine Met.ofW (cc := b_Pr_difference) (maxL := 7) (ret := none) (by decide) rfl ?_
  intro p e s m args below meth c s₁ B0 hml hv
  obtain ⟨rfl, hH, hB⟩ := hv
  have hx := B0.exec
  have hb := B0.bytes
  have hret := B0.returns
  have hts := atoms_spec (ws := w_Pr_difference) B0.pre
  have hown : s.vm.findClass R_Pr = some m.cls := findClass_of_methodNamed B0.named
  have hlocks := B0.notSynchronized
  rw [hH]
  have hl := lv_entry ([.ref h, .ref r, .ref a, .ref b]) (n := 7) (Nat.le_of_ble_eq_true rfl)
  rw [lg_entry_eq]
  generalize (lg_sl ([.ref h, .ref r, .ref a, .ref b]) ++ List.replicate (7 - (lg_sl ([.ref h, .ref r, .ref a, .ref b])).length) Slot.unset).toArray = ls at hl ⊢
  have hl : lv_has ls 7 [(0, .ref h), (1, .ref r), (2, .ref a), (3, .ref b)] := hl
  have hT := kr_T hE hB
  have hK := hB.1
  have hvg := hP.gap hW
  have hok := hP.2.2.2.2.1
  have hsa := kr_src hE hW hB ha
  have hsb := kr_src hE hW hB hb0
  have hla := kr_lt hE hW ha
  have hlb := kr_lt hE hW hb0
  have hlr := kr_lt hE hW (Or.inl hr)
  have hlg := kr_lt hE hW (Or.inr hP.2.2.2.1.1)
  rw [hvg] at hlg
  have hrr := kr_row hW hr
  have hend : ∀ (V : Nat) (H1 : Heap) (ls : Array Slot) (L : List Loc), V < kw_M 8 → V % mm = kp_dif mm (v a) (v b) → H1 = kq_set H r (kq_L (kr_c E) 8 V) → (∀ q ∈ L, q.base = r) → lv_has ls 7 [(0, .ref h), (1, .ref r)] → W p l e (headSpec w_Pr_difference ({ frames := 2, cells := 0, slots := 0, locals := 48 })).room s m [.ref h, .ref r, .ref a, .ref b].toArray below meth c H1 L 0 0 (MQ below (kq_Q (fun o H1 => o = none ∧ kr_W E (va_up v r (kp_dif mm (v a) (v b))) H1)) [.ref h, .ref r, .ref a, .ref b].toArray s 0 0 (fun q => q = r)) (F0 m 41 ls []) := by
    intro V H1 ls L hV hVm hH1 hL hl
    subst hH1
    have hW1 := kr_put hE hW hr hV
    refine kr_trimEnd (k0 := 0) (k1 := 1) hx hb hts hown hml hE hP hW1 hB hr (Nat.le_of_ble_eq_true rfl) (Nat.le_of_ble_eq_true rfl) hl rfl rfl d_Pr_difference_41 d_Pr_difference_42 d_Pr_difference_43 (fun H2 L2 hW2 hL2 => ?_)
    refine W.vret hx hb hret (fun t ht _ => ⟨_, rfl, rfl, ?_⟩) (t_lL (free := fun q => q = r) hL hL2) d_Pr_difference_46
    rw [ht]
    refine kr_same (fun q => ?_) hW2
    by_cases e : q = r
    · subst e
      rw [kq_up_at, kq_up_at, kq_up_at, hVm]
    · rw [kq_up_ne e, kq_up_ne e, kq_up_ne e]
  refine lv_aload_n hx hb d_Pr_difference_0 rfl (lv_at hl 1 rfl) ?_
  refine lv_aload_n hx hb d_Pr_difference_1 rfl (lv_at hl 2 rfl) ?_
  refine lv_aload_n hx hb d_Pr_difference_2 rfl (lv_at hl 3 rfl) ?_
  refine kq_call (va_runS (As := [.ref r, .ref a, .ref b]) (rest := []) ⟨hx, hb, hml, hown, hts⟩ (c_Wo_differenceInto l (kr_c E) H r a b (v r) (v a) (v b) hlr hla hlb hrr) (va_cwS 3 hts (kt_inS kt_w190 kt_w188 kt_w189 kt_w6) rfl rfl rfl (by decide +kernel) ⟨Nat.le_of_ble_eq_true rfl, Nat.le_of_ble_eq_true rfl⟩) (kq_preS (kq_st_A.both (kq_st_r.both kq_st_r)) (⟨hT, hsa, hsb⟩)) rfl rfl hl.1 rfl (lv_room (Nat.le_of_ble_eq_true rfl)) d_Pr_difference_3 ⟨Nat.zero_le _, Nat.zero_le _⟩) (fun v9 H9 L9 hq9 hL9 => ?_)
  obtain ⟨rfl, rfl⟩ := hq9
  refine W.eq (g2 := F0 m 6 ls [.long (lN (if v a < v b then 1 else 0))]) rfl ?_
  refine lv_lstore hx hb d_Pr_difference_6 hl (by decide) rfl (fun ls hl => ?_)
  have hl : lv_has ls 7 [(4, .long (lN (if v a < v b then 1 else 0))), (0, .ref h), (1, .ref r), (2, .ref a), (3, .ref b)] := hl
  refine lv_iconst (v := nI 0) hx hb d_Pr_difference_8 (by decide) ?_
  refine lv_istore hx hb d_Pr_difference_9 hl (by decide) rfl (fun ls hl => ?_)
  have hl : lv_has ls 7 [(6, .int (nI 0)), (4, .long (lN (if v a < v b then 1 else 0))), (0, .ref h), (1, .ref r), (2, .ref a), (3, .ref b)] := hl
  have hV0 : kw_sub (v a) (v b) < kw_M 8 := kw_sub_lt _ _
  refine lv_iload hx hb d_Pr_difference_11 (lv_at hl 0 rfl) ?_
  refine lv_iconst (v := nI 2) hx hb d_Pr_difference_13 (by decide) ?_
  refine lv_icmp_ge hx hb d_Pr_difference_14 rfl (fun hc => ?_) (fun hc => ?_)
  · exact absurd hc (nI_ge (by decide) (by decide))
  · refine lv_lload hx hb d_Pr_difference_17 (lv_at hl 1 rfl) ?_
    refine lv_lconst (v := lN 0) hx hb d_Pr_difference_19 (by decide) ?_
    refine W.lcmp hx hb d_Pr_difference_20 ?_
    refine lv_if_eq hx hb d_Pr_difference_21 rfl (fun hc0 => ?_) (fun hc0 => ?_)
    · have z0 : ¬ v a < v b := fun q => by
        rw [if_pos q] at hc0
        exact absurd hc0 (by decide)
      exact hend _ _ ls L9 hV0 (by
              have q := kp_sub_eq hok hla hlb
              unfold kp_sub at q
              rw [if_pos z0] at q
              exact q) rfl hL9 (lv_sub hl [2, 3] rfl)
    · have z0 : ¬ ¬ v a < v b := fun q => by
        rw [if_neg q] at hc0
        exact absurd rfl hc0
      have hW0 := kr_put hE hW hr hV0
      have hO := kr_obj hW0 hP.1 hP.2.1
      have hrr0 := kr_row hW0 hr
      have hsr0 := kr_src hE hW0 hB (Or.inl hr)
      have hsg0 := kr_src hE hW0 hB (Or.inr hP.2.2.2.1.1)
      have hvg0 := hP.gap hW0
      rw [hvg0] at hsg0
      rw [kq_up_at] at hsr0 hrr0
      refine lv_aload_n hx hb d_Pr_difference_24 rfl (lv_at hl 3 rfl) ?_
      refine lv_aload_n hx hb d_Pr_difference_25 rfl (lv_at hl 3 rfl) ?_
      refine lv_aload_n hx hb d_Pr_difference_26 rfl (lv_at hl 2 rfl) ?_
      refine kq_get hx hb hts kt_F_Pr hown hK hO rfl 1 (by decide) kt_w62 rfl d_Pr_difference_27 ?_
      refine kq_call (va_runS (As := [.ref r, .ref r, .ref ga]) (rest := []) ⟨hx, hb, hml, hown, hts⟩ (c_Wo_differenceInto l (kr_c E) (kq_set H r (kq_L (kr_c E) 8 (kw_sub (v a) (v b)))) r r ga (kw_sub (v a) (v b)) (kw_sub (v a) (v b)) G hV0 hV0 hlg hrr0) (va_cwS 3 hts (kt_inS kt_w190 kt_w188 kt_w189 kt_w6) rfl rfl rfl (by decide +kernel) ⟨Nat.le_of_ble_eq_true rfl, Nat.le_of_ble_eq_true rfl⟩) (kq_preS (kq_st_A.both (kq_st_r.both kq_st_r)) (⟨hT, hsr0, hsg0⟩)) rfl rfl hl.1 rfl (lv_room (Nat.le_of_ble_eq_true rfl)) d_Pr_difference_30 ⟨Nat.zero_le _, Nat.zero_le _⟩) (fun v1 H1 L1 hq1 hL1 => ?_)
      obtain ⟨rfl, rfl⟩ := hq1
      refine W.eq (g2 := F0 m 33 ls [.long (lN (if kw_sub (v a) (v b) < G then 1 else 0))]) rfl ?_
      refine kq_rH (kq_set_set _ _ _ _) ?_
      have hV1 : kw_sub (kw_sub (v a) (v b)) G < kw_M 8 := kw_sub_lt _ _
      refine lv_lstore hx hb d_Pr_difference_33 hl (by decide) rfl (fun ls hl => ?_)
      have hl : lv_has ls 7 [(4, .long (lN (if kw_sub (v a) (v b) < G then 1 else 0))), (6, .int (nI 0)), (0, .ref h), (1, .ref r), (2, .ref a), (3, .ref b)] := hl
      refine lv_iinc (k := 1) (v := nI 1) hx hb d_Pr_difference_35 hl rfl (by decide) (by decide) rfl (fun ls hl => ?_)
      have hl : lv_has ls 7 [(6, .int (nI 1)), (4, .long (lN (if kw_sub (v a) (v b) < G then 1 else 0))), (0, .ref h), (1, .ref r), (2, .ref a), (3, .ref b)] := hl
      refine lv_goto hx hb d_Pr_difference_38 rfl ?_
      refine lv_iload hx hb d_Pr_difference_11 (lv_at hl 0 rfl) ?_
      refine lv_iconst (v := nI 2) hx hb d_Pr_difference_13 (by decide) ?_
      refine lv_icmp_ge hx hb d_Pr_difference_14 rfl (fun hc => ?_) (fun hc => ?_)
      · exact absurd hc (nI_ge (by decide) (by decide))
      · refine lv_lload hx hb d_Pr_difference_17 (lv_at hl 1 rfl) ?_
        refine lv_lconst (v := lN 0) hx hb d_Pr_difference_19 (by decide) ?_
        refine W.lcmp hx hb d_Pr_difference_20 ?_
        refine lv_if_eq hx hb d_Pr_difference_21 rfl (fun hc1 => ?_) (fun hc1 => ?_)
        · have z1 : ¬ kw_sub (v a) (v b) < G := fun q => by
            rw [if_pos q] at hc1
            exact absurd hc1 (by decide)
          exact hend _ _ ls _ hV1 (by
                  have q := kp_sub_eq hok hla hlb
                  unfold kp_sub at q
                  rw [if_neg z0, if_pos z1] at q
                  exact q) rfl (t_lL (free := fun q => q = r) hL9 hL1) (lv_sub hl [2, 3] rfl)
        · have z1 : ¬ ¬ kw_sub (v a) (v b) < G := fun q => by
            rw [if_neg q] at hc1
            exact absurd rfl hc1
          have hW1 := kr_put hE hW hr hV1
          have hO := kr_obj hW1 hP.1 hP.2.1
          have hrr1 := kr_row hW1 hr
          have hsr1 := kr_src hE hW1 hB (Or.inl hr)
          have hsg1 := kr_src hE hW1 hB (Or.inr hP.2.2.2.1.1)
          have hvg1 := hP.gap hW1
          rw [hvg1] at hsg1
          rw [kq_up_at] at hsr1 hrr1
          refine lv_aload_n hx hb d_Pr_difference_24 rfl (lv_at hl 3 rfl) ?_
          refine lv_aload_n hx hb d_Pr_difference_25 rfl (lv_at hl 3 rfl) ?_
          refine lv_aload_n hx hb d_Pr_difference_26 rfl (lv_at hl 2 rfl) ?_
          refine kq_get hx hb hts kt_F_Pr hown hK hO rfl 1 (by decide) kt_w62 rfl d_Pr_difference_27 ?_
          refine kq_call (va_runS (As := [.ref r, .ref r, .ref ga]) (rest := []) ⟨hx, hb, hml, hown, hts⟩ (c_Wo_differenceInto l (kr_c E) (kq_set H r (kq_L (kr_c E) 8 (kw_sub (kw_sub (v a) (v b)) G))) r r ga (kw_sub (kw_sub (v a) (v b)) G) (kw_sub (kw_sub (v a) (v b)) G) G hV1 hV1 hlg hrr1) (va_cwS 3 hts (kt_inS kt_w190 kt_w188 kt_w189 kt_w6) rfl rfl rfl (by decide +kernel) ⟨Nat.le_of_ble_eq_true rfl, Nat.le_of_ble_eq_true rfl⟩) (kq_preS (kq_st_A.both (kq_st_r.both kq_st_r)) (⟨hT, hsr1, hsg1⟩)) rfl rfl hl.1 rfl (lv_room (Nat.le_of_ble_eq_true rfl)) d_Pr_difference_30 ⟨Nat.zero_le _, Nat.zero_le _⟩) (fun v2 H2 L2 hq2 hL2 => ?_)
          obtain ⟨rfl, rfl⟩ := hq2
          refine W.eq (g2 := F0 m 33 ls [.long (lN (if kw_sub (kw_sub (v a) (v b)) G < G then 1 else 0))]) rfl ?_
          refine kq_rH (kq_set_set _ _ _ _) ?_
          have hV2 : kw_sub (kw_sub (kw_sub (v a) (v b)) G) G < kw_M 8 := kw_sub_lt _ _
          refine lv_lstore hx hb d_Pr_difference_33 hl (by decide) rfl (fun ls hl => ?_)
          have hl : lv_has ls 7 [(4, .long (lN (if kw_sub (kw_sub (v a) (v b)) G < G then 1 else 0))), (6, .int (nI 1)), (0, .ref h), (1, .ref r), (2, .ref a), (3, .ref b)] := hl
          refine lv_iinc (k := 1) (v := nI 2) hx hb d_Pr_difference_35 hl rfl (by decide) (by decide) rfl (fun ls hl => ?_)
          have hl : lv_has ls 7 [(6, .int (nI 2)), (4, .long (lN (if kw_sub (kw_sub (v a) (v b)) G < G then 1 else 0))), (0, .ref h), (1, .ref r), (2, .ref a), (3, .ref b)] := hl
          refine lv_goto hx hb d_Pr_difference_38 rfl ?_
          refine lv_iload hx hb d_Pr_difference_11 (lv_at hl 0 rfl) ?_
          refine lv_iconst (v := nI 2) hx hb d_Pr_difference_13 (by decide) ?_
          refine lv_icmp_ge hx hb d_Pr_difference_14 rfl (fun hc => ?_) (fun hc => ?_)
          · exact hend _ _ ls _ hV2 (by
                    have q := kp_sub_eq hok hla hlb
                    unfold kp_sub at q
                    rw [if_neg z0, if_neg z1] at q
                    exact q) rfl (t_lL (free := fun q => q = r) (t_lL (free := fun q => q = r) hL9 hL1) hL2) (lv_sub hl [2, 3] rfl)
          · exact absurd (nI_le (Nat.le_refl 2) (by decide)) hc
