/-! KeyCurve: take, same, base, none, point, lift, plus, times (own rows). -/
section KGS
variable {p : Program} {l : Launch} {e : Env} {R : Room} {s : State} {m : MethodId} {args : Array Value} {below : List Frame} {meth : Method} {c : Code} {H : Heap} {locs : List Loc} {cells slots : Nat} {Q : State → Prop}
variable {cc : ByteArray} {pc : Nat} {ls : Array Slot} {rest : List Value}
theorem kq_gets {y : Cond} {C n d own : String} {v : Value} {index : Nat} {A : Nat → Prop} (hexec : p.tables.exec = Jvm.exec) (hb : c.code = cc) (hts : ∀ w ∈ y :: kt_all, w.before args s = true) (hZ : va_Z C n d v A s H) (hown : s.vm.findClass own = some m.cls) (hlink : Cond.fieldLink own index C n d ∈ kt_all) (hdg : decode cc pc = .ok (.getstatic index, 3))
    (kk : W p l e R s m args below meth c H locs cells slots Q (F0 m (pc + 3) ls (v :: rest))) : W p l e R s m args below meth c H locs cells slots Q (F0 m pc ls rest) := by
  obtain ⟨cf, kf, fi, f, a, cell, h1, h2, h3, h4, h5, h6, h7, h8⟩ := hZ
  exact W.gets hexec hb hown (hts _ (List.mem_cons_of_mem _ hlink)) h1 h2 h3 h4 h5 (fun e => by rw [e] at h6; cases h6) h7 rfl hdg kk
end KGS
theorem d_Ke_take_0 : decode b_Ke_take 0 = .ok (.aload_n 0, 1) := by decide +kernel
theorem d_Ke_take_1 : decode b_Ke_take 1 = .ok (.iload_n 2, 1) := by decide +kernel
theorem d_Ke_take_2 : decode b_Ke_take 2 = .ok (.invokevirtual 82, 3) := by decide +kernel
theorem d_Ke_take_5 : decode b_Ke_take 5 = .ok (.astore 4, 2) := by decide +kernel
theorem d_Ke_take_7 : decode b_Ke_take 7 = .ok (.aload 4, 2) := by decide +kernel
theorem d_Ke_take_9 : decode b_Ke_take 9 = .ok (.getfield 96, 3) := by decide +kernel
theorem d_Ke_take_12 : decode b_Ke_take 12 = .ok (.ifCond .eq 5, 3) := by decide +kernel
theorem d_Ke_take_15 : decode b_Ke_take 15 = .ok (.iconst 0, 1) := by decide +kernel
theorem d_Ke_take_16 : decode b_Ke_take 16 = .ok (.ireturn, 1) := by decide +kernel
theorem d_Ke_take_17 : decode b_Ke_take 17 = .ok (.aload_n 0, 1) := by decide +kernel
theorem d_Ke_take_18 : decode b_Ke_take 18 = .ok (.iload_n 1, 1) := by decide +kernel
theorem d_Ke_take_19 : decode b_Ke_take 19 = .ok (.invokevirtual 55, 3) := by decide +kernel
theorem d_Ke_take_22 : decode b_Ke_take 22 = .ok (.iload_n 3, 1) := by decide +kernel
theorem d_Ke_take_23 : decode b_Ke_take 23 = .ok (.ifCond .eq 11, 3) := by decide +kernel
theorem d_Ke_take_26 : decode b_Ke_take 26 = .ok (.aload 4, 2) := by decide +kernel
theorem d_Ke_take_28 : decode b_Ke_take 28 = .ok (.getfield 121, 3) := by decide +kernel
theorem d_Ke_take_31 : decode b_Ke_take 31 = .ok (.goto 8, 3) := by decide +kernel
theorem d_Ke_take_34 : decode b_Ke_take 34 = .ok (.aload 4, 2) := by decide +kernel
theorem d_Ke_take_36 : decode b_Ke_take 36 = .ok (.getfield 124, 3) := by decide +kernel
theorem d_Ke_take_39 : decode b_Ke_take 39 = .ok (.invokestatic 127, 3) := by decide +kernel
theorem d_Ke_take_42 : decode b_Ke_take 42 = .ok (.iconst 1, 1) := by decide +kernel
theorem d_Ke_take_43 : decode b_Ke_take 43 = .ok (.ireturn, 1) := by decide +kernel
set_option maxHeartbeats 4000000 in
set_option maxRecDepth 100000 in
theorem c_Ke_take (l : Launch) (E : kr_E) (A : Nat → Nat) (o : Nat) (bs : Nat → Bool) (v : Nat → Nat) (H : Heap) (hE : kr_ok E) (hA : kr_A E A) (hO : kr_O E A o bs) (hW : kr_W E v H) (r q : Int32) (d : Bool) : Met l y_Ke_take w_Ke_take ({ frames := 2, cells := 0, slots := 0, locals := 41 }) (kq_P [.ref o, .int r, .int q, .int (kq_z d)] H (kr_K E A o)) (kq_Q (fun o1 H1 => o1 = some (.int (kq_z (!bs (kx3 q)))) ∧ ∃ w : Nat → Nat, kr_W E w H1 ∧ w (o + 2 + kx3 r) = (if bs (kx3 q) = true then v (o + 2 + kx3 r) else if d = true then v (o + 7 + 3 * kx3 q + 2) else v (o + 7 + 3 * kx3 q + 1)) ∧ ∀ x, x ≠ o + 2 + kx3 r → w x = v x)) 0 0 (fun x => x = o + 2 + kx3 r) := by
  refine Met.ofW (cc := b_Ke_take) (maxL := 5) (ret := (some .boolean)) (by decide) rfl ?_
  intro p e s m args below meth c s₁ B0 hml hv
  obtain ⟨rfl, hH, hKK⟩ := hv
  have hx := B0.exec
  have hb := B0.bytes
  have hret := B0.returns
  have hts := atoms_spec (ws := w_Ke_take) B0.pre
  have hown : s.vm.findClass R_Ke = some m.cls := findClass_of_methodNamed B0.named
  have hlocks := B0.notSynchronized
  rw [hH]
  have hl := lv_entry ([.ref o, .int r, .int q, .int (kq_z d)]) (n := 5) (Nat.le_of_ble_eq_true rfl)
  rw [lg_entry_eq]
  generalize (lg_sl ([.ref o, .int r, .int q, .int (kq_z d)]) ++ List.replicate (5 - (lg_sl ([.ref o, .int r, .int q, .int (kq_z d)])).length) Slot.unset).toArray = ls at hl ⊢
  have hl : lv_has ls 5 [(0, .ref o), (1, .int r), (2, .int q), (3, .int (kq_z d))] := hl
  have hB := hKK.1.1
  have hT := kr_T hE hB
  have hK := hB.1
  have hOo := kr_obj hW hO.1 hO.2.1
  have hro := hO.2.2.2.2.2.2.1 (kx3 r) (kx3_lt r)
  have hS := hO.2.2.2.2.2.2.2 (kx3 q) (kx3_lt q)
  have hOs := kr_obj hW hS.1 hS.2.1
  have hsx := kr_src hE hW hB (Or.inl hS.2.2.1)
  have hlx := kr_lt hE hW (Or.inl hS.2.2.1)
  have hsy := kr_src hE hW hB (Or.inl hS.2.2.2)
  have hly := kr_lt hE hW (Or.inl hS.2.2.2)
  refine lv_aload_n hx hb d_Ke_take_0 rfl (lv_at hl 0 rfl) ?_
  refine lv_iload_n hx hb d_Ke_take_1 rfl (lv_at hl 2 rfl) ?_
  refine kq_call (va_runV (As := [.int q]) (rest := []) ⟨hx, hb, hml, hown, hts⟩ (c_Ke_spot l E A o bs v H hE hA hO hW q) (cwV 1 hts (kt_inV kt_w276 kt_w273 kt_w275 kt_s5 kt_w1) rfl rfl rfl (by decide +kernel) ⟨Nat.le_of_ble_eq_true rfl, Nat.le_of_ble_eq_true rfl⟩) (kq_p2V (kr_K_s2 E A o) (hKK) (kq_recv hKK.1.1.1 hOo rfl)) rfl rfl hl.1 rfl (lv_room (Nat.le_of_ble_eq_true rfl)) d_Ke_take_2 ⟨Nat.zero_le _, Nat.zero_le _⟩) (fun v9 H9 L1 hq9 hL1 => ?_)
  obtain ⟨rfl, e9⟩ := hq9
  rw [e9]
  clear e9
  refine W.eq (g2 := F0 m 5 ls [.ref (o + 7 + 3 * kx3 q)]) rfl ?_
  refine lv_astore hx hb d_Ke_take_5 hl (by decide) rfl (fun ls hl => ?_)
  have hl : lv_has ls 5 [(4, .ref (o + 7 + 3 * kx3 q)), (0, .ref o), (1, .int r), (2, .int q), (3, .int (kq_z d))] := hl
  refine lv_aload hx hb d_Ke_take_7 (lv_at hl 0 rfl) ?_
  refine kq_get hx hb hts kt_F_Sp hown hK hOs rfl 2 (by decide) kt_w34 rfl d_Ke_take_9 ?_
  refine lv_if_eq hx hb d_Ke_take_12 rfl (fun hc0 => ?_) (fun hc0 => ?_)
  · have hb0 := kq_z_b0 hc0
    refine lv_aload_n hx hb d_Ke_take_17 rfl (lv_at hl 1 rfl) ?_
    refine lv_iload_n hx hb d_Ke_take_18 rfl (lv_at hl 2 rfl) ?_
    refine kq_call (va_runV (As := [.int r]) (rest := []) ⟨hx, hb, hml, hown, hts⟩ (c_Ke_register l E A o bs v H hE hA hO hW r) (cwV 1 hts (kt_inV kt_w159 kt_w156 kt_w158 kt_s0 kt_w1) rfl rfl rfl (by decide +kernel) ⟨Nat.le_of_ble_eq_true rfl, Nat.le_of_ble_eq_true rfl⟩) (kq_p2V (kr_K_s2 E A o) (hKK) (kq_recv hKK.1.1.1 hOo rfl)) rfl rfl hl.1 rfl (lv_room (Nat.le_of_ble_eq_true rfl)) d_Ke_take_19 ⟨Nat.zero_le _, Nat.zero_le _⟩) (fun v9 H9 L2 hq9 hL2 => ?_)
    obtain ⟨rfl, e9⟩ := hq9
    rw [e9]
    clear e9
    refine W.eq (g2 := F0 m 22 ls [.ref (o + 2 + kx3 r)]) rfl ?_
    refine lv_iload_n hx hb d_Ke_take_22 rfl (lv_at hl 4 rfl) ?_
    refine lv_if_eq hx hb d_Ke_take_23 rfl (fun hd0 => ?_) (fun hd0 => ?_)
    · have hd := kq_z_b0 hd0
      refine lv_aload hx hb d_Ke_take_34 (lv_at hl 0 rfl) ?_
      refine kq_get hx hb hts kt_F_Sp hown hK hOs rfl 0 (by decide) kt_w28 rfl d_Ke_take_36 ?_
      refine kq_call (va_runS (As := [.ref (o + 2 + kx3 r), .ref (o + 7 + 3 * kx3 q + 1)]) (rest := []) ⟨hx, hb, hml, hown, hts⟩ (c_Wo_copy l (kr_c E) H (o + 2 + kx3 r) (o + 7 + 3 * kx3 q + 1) (v (o + 2 + kx3 r)) (v (o + 7 + 3 * kx3 q + 1)) (kr_row hW hro)) (va_cwS 2 hts (kt_inS kt_w222 kt_w362 kt_w221 kt_w6) rfl rfl rfl (by decide +kernel) ⟨Nat.le_of_ble_eq_true rfl, Nat.le_of_ble_eq_true rfl⟩) (kq_preS (kq_st_A.both kq_st_r) (⟨hT, hsx⟩)) rfl rfl hl.1 rfl (lv_room (Nat.le_of_ble_eq_true rfl)) d_Ke_take_39 ⟨Nat.zero_le _, Nat.zero_le _⟩) (fun v9 H9 L3 hq9 hL3 => ?_)
      obtain ⟨rfl, rfl⟩ := hq9
      refine W.eq (g2 := F0 m 42 ls []) rfl ?_
      refine lv_iconst (v := nI 1) hx hb d_Ke_take_42 (by decide) ?_
      exact W.zret hx hb hret rfl (fun t ht _ => ⟨_, rfl, by rw [hb0]; rfl, _, by rw [ht]; exact kr_put hE hW hro hlx, by rw [kq_up_at, hb0, hd]; rfl, fun x hx => kq_up_ne hx⟩) (t_lL (free := (fun x => x = o + 2 + kx3 r)) (t_lL (free := (fun x => x = o + 2 + kx3 r)) (t_lL (free := (fun x => x = o + 2 + kx3 r)) (fun q h => by cases h) (fun q z => (hL1 q z).elim)) (fun q z => (hL2 q z).elim)) hL3) d_Ke_take_43
    · have hd := kq_z_b1 hd0
      refine lv_aload hx hb d_Ke_take_26 (lv_at hl 0 rfl) ?_
      refine kq_get hx hb hts kt_F_Sp hown hK hOs rfl 1 (by decide) kt_w31 rfl d_Ke_take_28 ?_
      refine lv_goto hx hb d_Ke_take_31 rfl ?_
      refine kq_call (va_runS (As := [.ref (o + 2 + kx3 r), .ref (o + 7 + 3 * kx3 q + 2)]) (rest := []) ⟨hx, hb, hml, hown, hts⟩ (c_Wo_copy l (kr_c E) H (o + 2 + kx3 r) (o + 7 + 3 * kx3 q + 2) (v (o + 2 + kx3 r)) (v (o + 7 + 3 * kx3 q + 2)) (kr_row hW hro)) (va_cwS 2 hts (kt_inS kt_w222 kt_w362 kt_w221 kt_w6) rfl rfl rfl (by decide +kernel) ⟨Nat.le_of_ble_eq_true rfl, Nat.le_of_ble_eq_true rfl⟩) (kq_preS (kq_st_A.both kq_st_r) (⟨hT, hsy⟩)) rfl rfl hl.1 rfl (lv_room (Nat.le_of_ble_eq_true rfl)) d_Ke_take_39 ⟨Nat.zero_le _, Nat.zero_le _⟩) (fun v9 H9 L3 hq9 hL3 => ?_)
      obtain ⟨rfl, rfl⟩ := hq9
      refine W.eq (g2 := F0 m 42 ls []) rfl ?_
      refine lv_iconst (v := nI 1) hx hb d_Ke_take_42 (by decide) ?_
      exact W.zret hx hb hret rfl (fun t ht _ => ⟨_, rfl, by rw [hb0]; rfl, _, by rw [ht]; exact kr_put hE hW hro hly, by rw [kq_up_at, hb0, hd]; rfl, fun x hx => kq_up_ne hx⟩) (t_lL (free := (fun x => x = o + 2 + kx3 r)) (t_lL (free := (fun x => x = o + 2 + kx3 r)) (t_lL (free := (fun x => x = o + 2 + kx3 r)) (fun q h => by cases h) (fun q z => (hL1 q z).elim)) (fun q z => (hL2 q z).elim)) hL3) d_Ke_take_43
  · have hb0 := kq_z_b1 hc0
    refine lv_iconst (v := nI 0) hx hb d_Ke_take_15 (by decide) ?_
    exact W.zret hx hb hret rfl (fun t ht _ => ⟨_, rfl, by rw [hb0]; rfl, v, by rw [ht]; exact hW, by rw [if_pos hb0], fun _ _ => rfl⟩) (t_lL (free := (fun x => x = o + 2 + kx3 r)) (fun q h => by cases h) (fun q z => (hL1 q z).elim)) d_Ke_take_16
theorem d_Ke_same_0 : decode b_Ke_same 0 = .ok (.aload_n 0, 1) := by decide +kernel
theorem d_Ke_same_1 : decode b_Ke_same 1 = .ok (.iload_n 1, 1) := by decide +kernel
theorem d_Ke_same_2 : decode b_Ke_same 2 = .ok (.invokevirtual 82, 3) := by decide +kernel
theorem d_Ke_same_5 : decode b_Ke_same 5 = .ok (.astore_n 3, 1) := by decide +kernel
theorem d_Ke_same_6 : decode b_Ke_same 6 = .ok (.aload_n 0, 1) := by decide +kernel
theorem d_Ke_same_7 : decode b_Ke_same 7 = .ok (.iload_n 2, 1) := by decide +kernel
theorem d_Ke_same_8 : decode b_Ke_same 8 = .ok (.invokevirtual 82, 3) := by decide +kernel
theorem d_Ke_same_11 : decode b_Ke_same 11 = .ok (.astore 4, 2) := by decide +kernel
theorem d_Ke_same_13 : decode b_Ke_same 13 = .ok (.aload_n 3, 1) := by decide +kernel
theorem d_Ke_same_14 : decode b_Ke_same 14 = .ok (.getfield 96, 3) := by decide +kernel
theorem d_Ke_same_17 : decode b_Ke_same 17 = .ok (.ifCond .ne 11, 3) := by decide +kernel
theorem d_Ke_same_20 : decode b_Ke_same 20 = .ok (.aload 4, 2) := by decide +kernel
theorem d_Ke_same_22 : decode b_Ke_same 22 = .ok (.getfield 96, 3) := by decide +kernel
theorem d_Ke_same_25 : decode b_Ke_same 25 = .ok (.ifCond .eq 24, 3) := by decide +kernel
theorem d_Ke_same_28 : decode b_Ke_same 28 = .ok (.aload_n 3, 1) := by decide +kernel
theorem d_Ke_same_29 : decode b_Ke_same 29 = .ok (.getfield 96, 3) := by decide +kernel
theorem d_Ke_same_32 : decode b_Ke_same 32 = .ok (.ifCond .eq 15, 3) := by decide +kernel
theorem d_Ke_same_35 : decode b_Ke_same 35 = .ok (.aload 4, 2) := by decide +kernel
theorem d_Ke_same_37 : decode b_Ke_same 37 = .ok (.getfield 96, 3) := by decide +kernel
theorem d_Ke_same_40 : decode b_Ke_same 40 = .ok (.ifCond .eq 7, 3) := by decide +kernel
theorem d_Ke_same_43 : decode b_Ke_same 43 = .ok (.iconst 1, 1) := by decide +kernel
theorem d_Ke_same_44 : decode b_Ke_same 44 = .ok (.goto 4, 3) := by decide +kernel
theorem d_Ke_same_47 : decode b_Ke_same 47 = .ok (.iconst 0, 1) := by decide +kernel
theorem d_Ke_same_48 : decode b_Ke_same 48 = .ok (.ireturn, 1) := by decide +kernel
theorem d_Ke_same_49 : decode b_Ke_same 49 = .ok (.aload_n 3, 1) := by decide +kernel
theorem d_Ke_same_50 : decode b_Ke_same 50 = .ok (.getfield 124, 3) := by decide +kernel
theorem d_Ke_same_53 : decode b_Ke_same 53 = .ok (.aload 4, 2) := by decide +kernel
theorem d_Ke_same_55 : decode b_Ke_same 55 = .ok (.getfield 124, 3) := by decide +kernel
theorem d_Ke_same_58 : decode b_Ke_same 58 = .ok (.invokestatic 132, 3) := by decide +kernel
theorem d_Ke_same_61 : decode b_Ke_same 61 = .ok (.ifCond .eq 22, 3) := by decide +kernel
theorem d_Ke_same_64 : decode b_Ke_same 64 = .ok (.aload_n 3, 1) := by decide +kernel
theorem d_Ke_same_65 : decode b_Ke_same 65 = .ok (.getfield 121, 3) := by decide +kernel
theorem d_Ke_same_68 : decode b_Ke_same 68 = .ok (.aload 4, 2) := by decide +kernel
theorem d_Ke_same_70 : decode b_Ke_same 70 = .ok (.getfield 121, 3) := by decide +kernel
theorem d_Ke_same_73 : decode b_Ke_same 73 = .ok (.invokestatic 132, 3) := by decide +kernel
theorem d_Ke_same_76 : decode b_Ke_same 76 = .ok (.ifCond .eq 7, 3) := by decide +kernel
theorem d_Ke_same_79 : decode b_Ke_same 79 = .ok (.iconst 1, 1) := by decide +kernel
theorem d_Ke_same_80 : decode b_Ke_same 80 = .ok (.goto 4, 3) := by decide +kernel
theorem d_Ke_same_83 : decode b_Ke_same 83 = .ok (.iconst 0, 1) := by decide +kernel
theorem d_Ke_same_84 : decode b_Ke_same 84 = .ok (.ireturn, 1) := by decide +kernel
set_option maxHeartbeats 4000000 in
set_option maxRecDepth 100000 in
theorem c_Ke_same (l : Launch) (E : kr_E) (A : Nat → Nat) (o : Nat) (bs : Nat → Bool) (v : Nat → Nat) (H : Heap) (hE : kr_ok E) (hA : kr_A E A) (hO : kr_O E A o bs) (hW : kr_W E v H) (a b : Int32) : Met l y_Ke_same w_Ke_same ({ frames := 1, cells := 0, slots := 0, locals := 22 }) (kq_P [.ref o, .int a, .int b] H (kr_K E A o)) (kq_Q (fun o1 H1 => o1 = some (.int (kq_z (if (bs (kx3 a) || bs (kx3 b)) = true then (bs (kx3 a) && bs (kx3 b)) else decide (v (o + 7 + 3 * kx3 a + 1) = v (o + 7 + 3 * kx3 b + 1) ∧ v (o + 7 + 3 * kx3 a + 2) = v (o + 7 + 3 * kx3 b + 2))))) ∧ kr_W E v H1)) 0 0 (fun _ => False) := by
  refine Met.ofW (cc := b_Ke_same) (maxL := 5) (ret := (some .boolean)) (by decide) rfl ?_
  intro p e s m args below meth c s₁ B0 hml hv
  obtain ⟨rfl, hH, hKK⟩ := hv
  have hx := B0.exec
  have hb := B0.bytes
  have hret := B0.returns
  have hts := atoms_spec (ws := w_Ke_same) B0.pre
  have hown : s.vm.findClass R_Ke = some m.cls := findClass_of_methodNamed B0.named
  have hlocks := B0.notSynchronized
  rw [hH]
  have hl := lv_entry ([.ref o, .int a, .int b]) (n := 5) (Nat.le_of_ble_eq_true rfl)
  rw [lg_entry_eq]
  generalize (lg_sl ([.ref o, .int a, .int b]) ++ List.replicate (5 - (lg_sl ([.ref o, .int a, .int b])).length) Slot.unset).toArray = ls at hl ⊢
  have hl : lv_has ls 5 [(0, .ref o), (1, .int a), (2, .int b)] := hl
  have hB := hKK.1.1
  have hT := kr_T hE hB
  have hK := hB.1
  have hOo := kr_obj hW hO.1 hO.2.1
  have hSa := hO.2.2.2.2.2.2.2 (kx3 a) (kx3_lt a)
  have hSb := hO.2.2.2.2.2.2.2 (kx3 b) (kx3_lt b)
  have hOa := kr_obj hW hSa.1 hSa.2.1
  have hOb := kr_obj hW hSb.1 hSb.2.1
  have hs1 := kr_src hE hW hB (Or.inl hSa.2.2.1)
  have hl1 := kr_lt hE hW (Or.inl hSa.2.2.1)
  have hs2 := kr_src hE hW hB (Or.inl hSa.2.2.2)
  have hl2 := kr_lt hE hW (Or.inl hSa.2.2.2)
  have hs3 := kr_src hE hW hB (Or.inl hSb.2.2.1)
  have hl3 := kr_lt hE hW (Or.inl hSb.2.2.1)
  have hs4 := kr_src hE hW hB (Or.inl hSb.2.2.2)
  have hl4 := kr_lt hE hW (Or.inl hSb.2.2.2)
  refine lv_aload_n hx hb d_Ke_same_0 rfl (lv_at hl 0 rfl) ?_
  refine lv_iload_n hx hb d_Ke_same_1 rfl (lv_at hl 1 rfl) ?_
  refine kq_call (va_runV (As := [.int a]) (rest := []) ⟨hx, hb, hml, hown, hts⟩ (c_Ke_spot l E A o bs v H hE hA hO hW a) (cwV 1 hts (kt_inV kt_w276 kt_w273 kt_w275 kt_s5 kt_w1) rfl rfl rfl (by decide +kernel) ⟨Nat.le_of_ble_eq_true rfl, Nat.le_of_ble_eq_true rfl⟩) (kq_p2V (kr_K_s2 E A o) (hKK) (kq_recv hKK.1.1.1 hOo rfl)) rfl rfl hl.1 rfl (lv_room (Nat.le_of_ble_eq_true rfl)) d_Ke_same_2 ⟨Nat.zero_le _, Nat.zero_le _⟩) (fun v9 H9 L1 hq9 hL1 => ?_)
  obtain ⟨rfl, e9⟩ := hq9
  rw [e9]
  clear e9
  refine W.eq (g2 := F0 m 5 ls [.ref (o + 7 + 3 * kx3 a)]) rfl ?_
  refine lv_astore_n hx hb d_Ke_same_5 rfl hl (by decide) rfl (fun ls hl => ?_)
  have hl : lv_has ls 5 [(3, .ref (o + 7 + 3 * kx3 a)), (0, .ref o), (1, .int a), (2, .int b)] := hl
  refine lv_aload_n hx hb d_Ke_same_6 rfl (lv_at hl 1 rfl) ?_
  refine lv_iload_n hx hb d_Ke_same_7 rfl (lv_at hl 3 rfl) ?_
  refine kq_call (va_runV (As := [.int b]) (rest := []) ⟨hx, hb, hml, hown, hts⟩ (c_Ke_spot l E A o bs v H hE hA hO hW b) (cwV 1 hts (kt_inV kt_w276 kt_w273 kt_w275 kt_s5 kt_w1) rfl rfl rfl (by decide +kernel) ⟨Nat.le_of_ble_eq_true rfl, Nat.le_of_ble_eq_true rfl⟩) (kq_p2V (kr_K_s2 E A o) (hKK) (kq_recv hKK.1.1.1 hOo rfl)) rfl rfl hl.1 rfl (lv_room (Nat.le_of_ble_eq_true rfl)) d_Ke_same_8 ⟨Nat.zero_le _, Nat.zero_le _⟩) (fun v9 H9 L2 hq9 hL2 => ?_)
  obtain ⟨rfl, e9⟩ := hq9
  rw [e9]
  clear e9
  refine W.eq (g2 := F0 m 11 ls [.ref (o + 7 + 3 * kx3 b)]) rfl ?_
  have hlc2 : ∀ q ∈ (([] : List Loc) ++ L1) ++ L2, False := (t_lL (free := fun _ => False) (t_lL (free := fun _ => False) (fun q h => by cases h) (fun q z => (hL1 q z).elim)) (fun q z => (hL2 q z).elim))
  refine lv_astore hx hb d_Ke_same_11 hl (by decide) rfl (fun ls hl => ?_)
  have hl : lv_has ls 5 [(4, .ref (o + 7 + 3 * kx3 b)), (3, .ref (o + 7 + 3 * kx3 a)), (0, .ref o), (1, .int a), (2, .int b)] := hl
  refine lv_aload_n hx hb d_Ke_same_13 rfl (lv_at hl 1 rfl) ?_
  refine kq_get hx hb hts kt_F_Sp hown hK hOa rfl 2 (by decide) kt_w34 rfl d_Ke_same_14 ?_
  refine lv_if_ne hx hb d_Ke_same_17 rfl (fun hc1 => ?_) (fun hc1 => ?_)
  · have ha := kq_z_b1 hc1
    refine lv_aload_n hx hb d_Ke_same_28 rfl (lv_at hl 1 rfl) ?_
    refine kq_get hx hb hts kt_F_Sp hown hK hOa rfl 2 (by decide) kt_w34 rfl d_Ke_same_29 ?_
    refine lv_if_eq hx hb d_Ke_same_32 rfl (fun hc3 => ?_) (fun hc3 => ?_)
    · rw [ha] at hc3
      exact absurd hc3 (by decide)
    · refine lv_aload hx hb d_Ke_same_35 (lv_at hl 0 rfl) ?_
      refine kq_get hx hb hts kt_F_Sp hown hK hOb rfl 2 (by decide) kt_w34 rfl d_Ke_same_37 ?_
      refine lv_if_eq hx hb d_Ke_same_40 rfl (fun hc4 => ?_) (fun hc4 => ?_)
      · have hb0 := kq_z_b0 hc4
        refine lv_iconst (v := nI 0) hx hb d_Ke_same_47 (by decide) ?_
        exact W.zret hx hb hret rfl (fun t ht _ => ⟨_, rfl, by rw [ha, hb0]; rfl, by rw [ht]; exact hW⟩) hlc2 d_Ke_same_48
      · have hb0 := kq_z_b1 hc4
        refine lv_iconst (v := nI 1) hx hb d_Ke_same_43 (by decide) ?_
        refine lv_goto hx hb d_Ke_same_44 rfl ?_
        exact W.zret hx hb hret rfl (fun t ht _ => ⟨_, rfl, by rw [ha, hb0]; rfl, by rw [ht]; exact hW⟩) hlc2 d_Ke_same_48
  · have ha := kq_z_b0 hc1
    refine lv_aload hx hb d_Ke_same_20 (lv_at hl 0 rfl) ?_
    refine kq_get hx hb hts kt_F_Sp hown hK hOb rfl 2 (by decide) kt_w34 rfl d_Ke_same_22 ?_
    refine lv_if_eq hx hb d_Ke_same_25 rfl (fun hc2 => ?_) (fun hc2 => ?_)
    · have hb0 := kq_z_b0 hc2
      refine lv_aload_n hx hb d_Ke_same_49 rfl (lv_at hl 1 rfl) ?_
      refine kq_get hx hb hts kt_F_Sp hown hK hOa rfl 0 (by decide) kt_w28 rfl d_Ke_same_50 ?_
      refine lv_aload hx hb d_Ke_same_53 (lv_at hl 0 rfl) ?_
      refine kq_get hx hb hts kt_F_Sp hown hK hOb rfl 0 (by decide) kt_w28 rfl d_Ke_same_55 ?_
      refine kq_call (va_runS (As := [.ref (o + 7 + 3 * kx3 a + 1), .ref (o + 7 + 3 * kx3 b + 1)]) (rest := []) ⟨hx, hb, hml, hown, hts⟩ (c_Wo_areEqual l H (o + 7 + 3 * kx3 a + 1) (o + 7 + 3 * kx3 b + 1) (v (o + 7 + 3 * kx3 a + 1)) (v (o + 7 + 3 * kx3 b + 1)) hl1 hl3) (va_cwS 2 hts (kt_inS kt_w263 kt_w367 kt_w262 kt_w6) rfl rfl rfl (by decide +kernel) ⟨Nat.le_of_ble_eq_true rfl, Nat.le_of_ble_eq_true rfl⟩) (kq_preS (kq_st_r.both kq_st_r) (⟨hs1, hs3⟩)) rfl rfl hl.1 rfl (lv_room (Nat.le_of_ble_eq_true rfl)) d_Ke_same_58 ⟨Nat.zero_le _, Nat.zero_le _⟩) (fun v9 H9 L3 hq9 hL3 => ?_)
      obtain ⟨rfl, e9⟩ := hq9
      rw [e9]
      clear e9
      refine W.eq (g2 := F0 m 61 ls [.int (kq_z (decide (v (o + 7 + 3 * kx3 a + 1) = v (o + 7 + 3 * kx3 b + 1))))]) rfl ?_
      have hlc3 : ∀ q ∈ ((([] : List Loc) ++ L1) ++ L2) ++ L3, False := t_lL (free := fun _ => False) hlc2 (fun q z => (hL3 q z).elim)
      refine lv_if_eq hx hb d_Ke_same_61 rfl (fun hc3 => ?_) (fun hc3 => ?_)
      · have hn := kq_z_eq.mp hc3
        refine lv_iconst (v := nI 0) hx hb d_Ke_same_83 (by decide) ?_
        have hd : decide (v (o + 7 + 3 * kx3 a + 1) = v (o + 7 + 3 * kx3 b + 1) ∧ v (o + 7 + 3 * kx3 a + 2) = v (o + 7 + 3 * kx3 b + 2)) = false := decide_eq_false (fun q => hn q.1)
        exact W.zret hx hb hret rfl (fun t ht _ => ⟨_, rfl, by rw [ha, hb0, hd]; rfl, by rw [ht]; exact hW⟩) hlc3 d_Ke_same_84
      · have h1 := kq_z_ne.mp hc3
        refine lv_aload_n hx hb d_Ke_same_64 rfl (lv_at hl 1 rfl) ?_
        refine kq_get hx hb hts kt_F_Sp hown hK hOa rfl 1 (by decide) kt_w31 rfl d_Ke_same_65 ?_
        refine lv_aload hx hb d_Ke_same_68 (lv_at hl 0 rfl) ?_
        refine kq_get hx hb hts kt_F_Sp hown hK hOb rfl 1 (by decide) kt_w31 rfl d_Ke_same_70 ?_
        refine kq_call (va_runS (As := [.ref (o + 7 + 3 * kx3 a + 2), .ref (o + 7 + 3 * kx3 b + 2)]) (rest := []) ⟨hx, hb, hml, hown, hts⟩ (c_Wo_areEqual l H (o + 7 + 3 * kx3 a + 2) (o + 7 + 3 * kx3 b + 2) (v (o + 7 + 3 * kx3 a + 2)) (v (o + 7 + 3 * kx3 b + 2)) hl2 hl4) (va_cwS 2 hts (kt_inS kt_w263 kt_w367 kt_w262 kt_w6) rfl rfl rfl (by decide +kernel) ⟨Nat.le_of_ble_eq_true rfl, Nat.le_of_ble_eq_true rfl⟩) (kq_preS (kq_st_r.both kq_st_r) (⟨hs2, hs4⟩)) rfl rfl hl.1 rfl (lv_room (Nat.le_of_ble_eq_true rfl)) d_Ke_same_73 ⟨Nat.zero_le _, Nat.zero_le _⟩) (fun v9 H9 L4 hq9 hL4 => ?_)
        obtain ⟨rfl, e9⟩ := hq9
        rw [e9]
        clear e9
        refine W.eq (g2 := F0 m 76 ls [.int (kq_z (decide (v (o + 7 + 3 * kx3 a + 2) = v (o + 7 + 3 * kx3 b + 2))))]) rfl ?_
        have hlc4 : ∀ q ∈ (((([] : List Loc) ++ L1) ++ L2) ++ L3) ++ L4, False := t_lL (free := fun _ => False) hlc3 (fun q z => (hL4 q z).elim)
        refine lv_if_eq hx hb d_Ke_same_76 rfl (fun hc4 => ?_) (fun hc4 => ?_)
        · have hn := kq_z_eq.mp hc4
          refine lv_iconst (v := nI 0) hx hb d_Ke_same_83 (by decide) ?_
          have hd : decide (v (o + 7 + 3 * kx3 a + 1) = v (o + 7 + 3 * kx3 b + 1) ∧ v (o + 7 + 3 * kx3 a + 2) = v (o + 7 + 3 * kx3 b + 2)) = false := decide_eq_false (fun q => hn q.2)
          exact W.zret hx hb hret rfl (fun t ht _ => ⟨_, rfl, by rw [ha, hb0, hd]; rfl, by rw [ht]; exact hW⟩) hlc4 d_Ke_same_84
        · have h2 := kq_z_ne.mp hc4
          refine lv_iconst (v := nI 1) hx hb d_Ke_same_79 (by decide) ?_
          refine lv_goto hx hb d_Ke_same_80 rfl ?_
          have hd : decide (v (o + 7 + 3 * kx3 a + 1) = v (o + 7 + 3 * kx3 b + 1) ∧ v (o + 7 + 3 * kx3 a + 2) = v (o + 7 + 3 * kx3 b + 2)) = true := decide_eq_true ⟨h1, h2⟩
          exact W.zret hx hb hret rfl (fun t ht _ => ⟨_, rfl, by rw [ha, hb0, hd]; rfl, by rw [ht]; exact hW⟩) hlc4 d_Ke_same_84
    · have hb0 := kq_z_b1 hc2
      refine lv_aload_n hx hb d_Ke_same_28 rfl (lv_at hl 1 rfl) ?_
      refine kq_get hx hb hts kt_F_Sp hown hK hOa rfl 2 (by decide) kt_w34 rfl d_Ke_same_29 ?_
      refine lv_if_eq hx hb d_Ke_same_32 rfl (fun hc3 => ?_) (fun hc3 => ?_)
      · refine lv_iconst (v := nI 0) hx hb d_Ke_same_47 (by decide) ?_
        exact W.zret hx hb hret rfl (fun t ht _ => ⟨_, rfl, by rw [ha, hb0]; rfl, by rw [ht]; exact hW⟩) hlc2 d_Ke_same_48
      · rw [ha] at hc3
        exact absurd rfl hc3
theorem d_Ke_base_0 : decode b_Ke_base 0 = .ok (.aload_n 0, 1) := by decide +kernel
theorem d_Ke_base_1 : decode b_Ke_base 1 = .ok (.iload_n 1, 1) := by decide +kernel
theorem d_Ke_base_2 : decode b_Ke_base 2 = .ok (.invokevirtual 82, 3) := by decide +kernel
theorem d_Ke_base_5 : decode b_Ke_base 5 = .ok (.getstatic 86, 3) := by decide +kernel
theorem d_Ke_base_8 : decode b_Ke_base 8 = .ok (.getstatic 89, 3) := by decide +kernel
theorem d_Ke_base_11 : decode b_Ke_base 11 = .ok (.invokevirtual 92, 3) := by decide +kernel
theorem d_Ke_base_14 : decode b_Ke_base 14 = .ok (.return_, 1) := by decide +kernel
set_option maxHeartbeats 4000000 in
set_option maxRecDepth 100000 in
theorem c_Ke_base (l : Launch) (E : kr_E) (A : Nat → Nat) (o : Nat) (bs : Nat → Bool) (v : Nat → Nat) (H : Heap) (hE : kr_ok E) (hA : kr_A E A) (hO : kr_O E A o bs) (hW : kr_W E v H) (q : Int32) : Met l y_Ke_base w_Ke_base ({ frames := 3, cells := 0, slots := 0, locals := 63 }) (kq_P [.ref o, .int q] H (kr_K E A o)) (kq_Q (fun o1 H1 => o1 = none ∧ kr_Wb E (o + 7 + 3 * kx3 q) false (va_up (va_up v (o + 7 + 3 * kx3 q + 1) kX_G) (o + 7 + 3 * kx3 q + 2) kY_G) H1)) 0 0 (fun x => x = o + 7 + 3 * kx3 q ∨ x = o + 7 + 3 * kx3 q + 1 ∨ x = o + 7 + 3 * kx3 q + 2) := by
  refine Met.ofW (cc := b_Ke_base) (maxL := 2) (ret := none) (by decide) rfl ?_
  intro p e s m args below meth c s₁ B0 hml hv
  obtain ⟨rfl, hH, hKK⟩ := hv
  have hx := B0.exec
  have hb := B0.bytes
  have hret := B0.returns
  have hts := atoms_spec (ws := w_Ke_base) B0.pre
  have hown : s.vm.findClass R_Ke = some m.cls := findClass_of_methodNamed B0.named
  have hlocks := B0.notSynchronized
  rw [hH]
  have hl := lv_entry ([.ref o, .int q]) (n := 2) (Nat.le_of_ble_eq_true rfl)
  rw [lg_entry_eq]
  generalize (lg_sl ([.ref o, .int q]) ++ List.replicate (2 - (lg_sl ([.ref o, .int q])).length) Slot.unset).toArray = ls at hl ⊢
  have hl : lv_has ls 2 [(0, .ref o), (1, .int q)] := hl
  have hB := hKK.1.1
  have hT := kr_T hE hB
  have hK := hB.1
  have hOo := kr_obj hW hO.1 hO.2.1
  have hS := hO.2.2.2.2.2.2.2 (kx3 q) (kx3_lt q)
  have hOs := kr_obj hW hS.1 hS.2.1
  have hne : A 5 ≠ o + 7 + 3 * kx3 q + 1 := fun z => hE.1 _ hA.2.2.2.2.2.1 (by rw [z]; exact hS.2.2.1.1)
  refine lv_aload_n hx hb d_Ke_base_0 rfl (lv_at hl 0 rfl) ?_
  refine lv_iload_n hx hb d_Ke_base_1 rfl (lv_at hl 1 rfl) ?_
  refine kq_call (va_runV (As := [.int q]) (rest := []) ⟨hx, hb, hml, hown, hts⟩ (c_Ke_spot l E A o bs v H hE hA hO hW q) (cwV 1 hts (kt_inV kt_w276 kt_w273 kt_w275 kt_s5 kt_w1) rfl rfl rfl (by decide +kernel) ⟨Nat.le_of_ble_eq_true rfl, Nat.le_of_ble_eq_true rfl⟩) (kq_p2V (kr_K_s2 E A o) (hKK) (kq_recv hKK.1.1.1 hOo rfl)) rfl rfl hl.1 rfl (lv_room (Nat.le_of_ble_eq_true rfl)) d_Ke_base_2 ⟨Nat.zero_le _, Nat.zero_le _⟩) (fun v9 H9 L1 hq9 hL1 => ?_)
  obtain ⟨rfl, e9⟩ := hq9
  rw [e9]
  clear e9
  refine W.eq (g2 := F0 m 5 ls [.ref (o + 7 + 3 * kx3 q)]) rfl ?_
  refine kq_gets hx hb hts (kr_zat hW hKK.1.2.2.2.2.2.2.1) hown kt_w277 d_Ke_base_5 ?_
  refine kq_gets hx hb hts (kr_zat hW hKK.1.2.2.2.2.2.2.2) hown kt_w279 d_Ke_base_8 ?_
  refine kq_call (va_runV (As := [.ref (A 4), .ref (A 5)]) (rest := []) ⟨hx, hb, hml, hown, hts⟩ (c_Sp_become l E v H hE hW (o + 7 + 3 * kx3 q) (bs (kx3 q)) hS (A 4) (A 5) (Or.inr hA.2.2.2.2.1.1) (Or.inr hA.2.2.2.2.2.1) hne) (cwV 2 hts (kt_inV kt_w284 kt_w281 kt_w282 kt_w283 kt_w2) rfl rfl rfl (by decide +kernel) ⟨Nat.le_of_ble_eq_true rfl, Nat.le_of_ble_eq_true rfl⟩) (kq_preV (kr_st E) (hB) (kq_recv hB.1 hOs rfl)) rfl rfl hl.1 rfl (lv_room (Nat.le_of_ble_eq_true rfl)) d_Ke_base_11 ⟨Nat.zero_le _, Nat.zero_le _⟩) (fun v9 H9 L2 hq9 hL2 => ?_)
  obtain ⟨rfl, hX⟩ := hq9
  refine W.eq (g2 := F0 m 14 ls []) rfl ?_
  rw [kr_cst hW hA.2.2.2.2.1, kr_cst hW hA.2.2.2.2.2] at hX
  exact W.vret hx hb hret (fun t ht _ => ⟨_, rfl, rfl, by rw [ht]; exact hX⟩) (t_lL (free := (fun x => x = o + 7 + 3 * kx3 q ∨ x = o + 7 + 3 * kx3 q + 1 ∨ x = o + 7 + 3 * kx3 q + 2)) (t_lL (free := (fun x => x = o + 7 + 3 * kx3 q ∨ x = o + 7 + 3 * kx3 q + 1 ∨ x = o + 7 + 3 * kx3 q + 2)) (fun q h => by cases h) (fun q z => (hL1 q z).elim)) hL2) d_Ke_base_14
theorem d_Ke_none_0 : decode b_Ke_none 0 = .ok (.aload_n 0, 1) := by decide +kernel
theorem d_Ke_none_1 : decode b_Ke_none 1 = .ok (.iload_n 1, 1) := by decide +kernel
theorem d_Ke_none_2 : decode b_Ke_none 2 = .ok (.invokevirtual 82, 3) := by decide +kernel
theorem d_Ke_none_5 : decode b_Ke_none 5 = .ok (.iconst 1, 1) := by decide +kernel
theorem d_Ke_none_6 : decode b_Ke_none 6 = .ok (.putfield 96, 3) := by decide +kernel
theorem d_Ke_none_9 : decode b_Ke_none 9 = .ok (.return_, 1) := by decide +kernel
set_option maxHeartbeats 4000000 in
set_option maxRecDepth 100000 in
theorem c_Ke_none (l : Launch) (E : kr_E) (A : Nat → Nat) (o : Nat) (bs : Nat → Bool) (v : Nat → Nat) (H : Heap) (hE : kr_ok E) (hA : kr_A E A) (hO : kr_O E A o bs) (hW : kr_W E v H) (q : Int32) : Met l y_Ke_none w_Ke_none ({ frames := 1, cells := 0, slots := 0, locals := 21 }) (kq_P [.ref o, .int q] H (kr_K E A o)) (kq_Q (fun o1 H1 => o1 = none ∧ kr_Wb E (o + 7 + 3 * kx3 q) true v H1)) 0 0 (fun x => x = o + 7 + 3 * kx3 q) := by
  refine Met.ofW (cc := b_Ke_none) (maxL := 2) (ret := none) (by decide) rfl ?_
  intro p e s m args below meth c s₁ B0 hml hv
  obtain ⟨rfl, hH, hKK⟩ := hv
  have hx := B0.exec
  have hb := B0.bytes
  have hret := B0.returns
  have hts := atoms_spec (ws := w_Ke_none) B0.pre
  have hown : s.vm.findClass R_Ke = some m.cls := findClass_of_methodNamed B0.named
  have hlocks := B0.notSynchronized
  rw [hH]
  have hl := lv_entry ([.ref o, .int q]) (n := 2) (Nat.le_of_ble_eq_true rfl)
  rw [lg_entry_eq]
  generalize (lg_sl ([.ref o, .int q]) ++ List.replicate (2 - (lg_sl ([.ref o, .int q])).length) Slot.unset).toArray = ls at hl ⊢
  have hl : lv_has ls 2 [(0, .ref o), (1, .int q)] := hl
  have hB := hKK.1.1
  have hT := kr_T hE hB
  have hK := hB.1
  have hOo := kr_obj hW hO.1 hO.2.1
  have hS := hO.2.2.2.2.2.2.2 (kx3 q) (kx3_lt q)
  have hOs := kr_obj hW hS.1 hS.2.1
  refine lv_aload_n hx hb d_Ke_none_0 rfl (lv_at hl 0 rfl) ?_
  refine lv_iload_n hx hb d_Ke_none_1 rfl (lv_at hl 1 rfl) ?_
  refine kq_call (va_runV (As := [.int q]) (rest := []) ⟨hx, hb, hml, hown, hts⟩ (c_Ke_spot l E A o bs v H hE hA hO hW q) (cwV 1 hts (kt_inV kt_w276 kt_w273 kt_w275 kt_s5 kt_w1) rfl rfl rfl (by decide +kernel) ⟨Nat.le_of_ble_eq_true rfl, Nat.le_of_ble_eq_true rfl⟩) (kq_p2V (kr_K_s2 E A o) (hKK) (kq_recv hKK.1.1.1 hOo rfl)) rfl rfl hl.1 rfl (lv_room (Nat.le_of_ble_eq_true rfl)) d_Ke_none_2 ⟨Nat.zero_le _, Nat.zero_le _⟩) (fun v9 H9 L1 hq9 hL1 => ?_)
  obtain ⟨rfl, e9⟩ := hq9
  rw [e9]
  clear e9
  refine W.eq (g2 := F0 m 5 ls [.ref (o + 7 + 3 * kx3 q)]) rfl ?_
  refine lv_iconst (v := nI 1) hx hb d_Ke_none_5 (by decide) ?_
  refine kq_put hx hb hts kt_F_Sp t_Sp t_Sp_ok n_Sp hown hK hOs rfl 2 (by decide) kt_w34 rfl (ty := .boolean) (by decide +kernel) rfl rfl (Nat.le_of_ble_eq_true rfl) d_Ke_none_6 (fun H3 L3 hP3 hz3 ho3 hL3 => ?_)
  have hP3 : va_P (kr_D E) kr_cl [(o + 7 + 3 * kx3 q, .inr (2, [.ref (o + 7 + 3 * kx3 q + 1), .ref (o + 7 + 3 * kx3 q + 2), .int (kq_z true)]))] H3 := hP3
  exact W.vret hx hb hret (fun t ht _ => ⟨_, rfl, rfl, H, hW, by rw [ht]; exact hz3, fun q hq => by rw [ht]; exact ho3 q hq, by rw [ht]; exact hP3⟩) (t_lL (free := (fun x => x = o + 7 + 3 * kx3 q)) (t_lL (free := (fun x => x = o + 7 + 3 * kx3 q)) (fun q h => by cases h) (fun q z => (hL1 q z).elim)) hL3) d_Ke_none_9
theorem d_Ke_point_0 : decode b_Ke_point 0 = .ok (.aload_n 0, 1) := by decide +kernel
theorem d_Ke_point_1 : decode b_Ke_point 1 = .ok (.getfield 51, 3) := by decide +kernel
theorem d_Ke_point_4 : decode b_Ke_point 4 = .ok (.aload_n 0, 1) := by decide +kernel
theorem d_Ke_point_5 : decode b_Ke_point 5 = .ok (.iload_n 2, 1) := by decide +kernel
theorem d_Ke_point_6 : decode b_Ke_point 6 = .ok (.invokevirtual 55, 3) := by decide +kernel
theorem d_Ke_point_9 : decode b_Ke_point 9 = .ok (.aload_n 0, 1) := by decide +kernel
theorem d_Ke_point_10 : decode b_Ke_point 10 = .ok (.iload_n 3, 1) := by decide +kernel
theorem d_Ke_point_11 : decode b_Ke_point 11 = .ok (.invokevirtual 55, 3) := by decide +kernel
theorem d_Ke_point_14 : decode b_Ke_point 14 = .ok (.invokevirtual 100, 3) := by decide +kernel
theorem d_Ke_point_17 : decode b_Ke_point 17 = .ok (.ifCond .ne 5, 3) := by decide +kernel
theorem d_Ke_point_20 : decode b_Ke_point 20 = .ok (.iconst 0, 1) := by decide +kernel
theorem d_Ke_point_21 : decode b_Ke_point 21 = .ok (.ireturn, 1) := by decide +kernel
theorem d_Ke_point_22 : decode b_Ke_point 22 = .ok (.aload_n 0, 1) := by decide +kernel
theorem d_Ke_point_23 : decode b_Ke_point 23 = .ok (.iload_n 1, 1) := by decide +kernel
theorem d_Ke_point_24 : decode b_Ke_point 24 = .ok (.invokevirtual 82, 3) := by decide +kernel
theorem d_Ke_point_27 : decode b_Ke_point 27 = .ok (.aload_n 0, 1) := by decide +kernel
theorem d_Ke_point_28 : decode b_Ke_point 28 = .ok (.iload_n 2, 1) := by decide +kernel
theorem d_Ke_point_29 : decode b_Ke_point 29 = .ok (.invokevirtual 55, 3) := by decide +kernel
theorem d_Ke_point_32 : decode b_Ke_point 32 = .ok (.aload_n 0, 1) := by decide +kernel
theorem d_Ke_point_33 : decode b_Ke_point 33 = .ok (.iload_n 3, 1) := by decide +kernel
theorem d_Ke_point_34 : decode b_Ke_point 34 = .ok (.invokevirtual 55, 3) := by decide +kernel
theorem d_Ke_point_37 : decode b_Ke_point 37 = .ok (.invokevirtual 92, 3) := by decide +kernel
theorem d_Ke_point_40 : decode b_Ke_point 40 = .ok (.iconst 1, 1) := by decide +kernel
theorem d_Ke_point_41 : decode b_Ke_point 41 = .ok (.ireturn, 1) := by decide +kernel
set_option maxHeartbeats 4000000 in
set_option maxRecDepth 100000 in
theorem c_Ke_point (l : Launch) (E : kr_E) (A : Nat → Nat) (o : Nat) (bs : Nat → Bool) (v : Nat → Nat) (H : Heap) (hE : kr_ok E) (hA : kr_A E A) (hO : kr_O E A o bs) (hW : kr_W E v H) (q a b : Int32) : Met l y_Ke_point w_Ke_point ({ frames := 5, cells := 0, slots := 0, locals := 119 }) (kq_P [.ref o, .int q, .int a, .int b] H (kr_K E A o)) (kq_Q (fun o1 H1 => o1 = some (.int (kq_z (decide (v (o + 2 + kx3 a) < kP ∧ v (o + 2 + kx3 b) < kP ∧ v (o + 2 + kx3 b) * v (o + 2 + kx3 b) % kP = kc_sq (v (o + 2 + kx3 a)))))) ∧ ∃ w : Nat → Nat, kr_Wb E (o + 7 + 3 * kx3 q) (if v (o + 2 + kx3 a) < kP ∧ v (o + 2 + kx3 b) < kP ∧ v (o + 2 + kx3 b) * v (o + 2 + kx3 b) % kP = kc_sq (v (o + 2 + kx3 a)) then false else bs (kx3 q)) w H1 ∧ w (o + 7 + 3 * kx3 q + 1) = (if v (o + 2 + kx3 a) < kP ∧ v (o + 2 + kx3 b) < kP ∧ v (o + 2 + kx3 b) * v (o + 2 + kx3 b) % kP = kc_sq (v (o + 2 + kx3 a)) then v (o + 2 + kx3 a) else v (o + 7 + 3 * kx3 q + 1)) ∧ w (o + 7 + 3 * kx3 q + 2) = (if v (o + 2 + kx3 a) < kP ∧ v (o + 2 + kx3 b) < kP ∧ v (o + 2 + kx3 b) * v (o + 2 + kx3 b) % kP = kc_sq (v (o + 2 + kx3 a)) then v (o + 2 + kx3 b) else v (o + 7 + 3 * kx3 q + 2)) ∧ ∀ x, x ≠ o + 7 + 3 * kx3 q + 1 → x ≠ o + 7 + 3 * kx3 q + 2 → ¬ kr_fr (o + 19) (o + 33) x → w x = v x)) 0 0 (fun x => x = o + 7 + 3 * kx3 q ∨ x = o + 7 + 3 * kx3 q + 1 ∨ x = o + 7 + 3 * kx3 q + 2 ∨ kr_fr (o + 19) (o + 33) x) := by
  refine Met.ofW (cc := b_Ke_point) (maxL := 4) (ret := (some .boolean)) (by decide) rfl ?_
  intro p e s m args below meth c s₁ B0 hml hv
  obtain ⟨rfl, hH, hKK⟩ := hv
  have hx := B0.exec
  have hb := B0.bytes
  have hret := B0.returns
  have hts := atoms_spec (ws := w_Ke_point) B0.pre
  have hown : s.vm.findClass R_Ke = some m.cls := findClass_of_methodNamed B0.named
  have hlocks := B0.notSynchronized
  rw [hH]
  have hl := lv_entry ([.ref o, .int q, .int a, .int b]) (n := 4) (Nat.le_of_ble_eq_true rfl)
  rw [lg_entry_eq]
  generalize (lg_sl ([.ref o, .int q, .int a, .int b]) ++ List.replicate (4 - (lg_sl ([.ref o, .int q, .int a, .int b])).length) Slot.unset).toArray = ls at hl ⊢
  have hl : lv_has ls 4 [(0, .ref o), (1, .int q), (2, .int a), (3, .int b)] := hl
  have hB := hKK.1.1
  have hT := kr_T hE hB
  have hK := hB.1
  have hOo := kr_obj hW hO.1 hO.2.1
  have hao := hO.2.2.2.2.2.2.1 (kx3 a) (kx3_lt a)
  have hbo := hO.2.2.2.2.2.2.1 (kx3 b) (kx3_lt b)
  have hS := hO.2.2.2.2.2.2.2 (kx3 q) (kx3_lt q)
  have hV := hO.2.2.2.2.2.1
  have hOc := kr_obj hW hV.1 hV.2.1
  have l1 := kx3_lt q
  have l2 := kx3_lt a
  have l3 := kx3_lt b
  refine lv_aload_n hx hb d_Ke_point_0 rfl (lv_at hl 0 rfl) ?_
  refine kq_get hx hb hts kt_F_Ke hown hK hOo rfl 4 (by decide) kt_w140 rfl d_Ke_point_1 ?_
  refine lv_aload_n hx hb d_Ke_point_4 rfl (lv_at hl 0 rfl) ?_
  refine lv_iload_n hx hb d_Ke_point_5 rfl (lv_at hl 2 rfl) ?_
  refine kq_call (va_runV (As := [.int a]) (rest := [.ref (o + 33)]) ⟨hx, hb, hml, hown, hts⟩ (c_Ke_register l E A o bs v H hE hA hO hW a) (cwV 1 hts (kt_inV kt_w159 kt_w156 kt_w158 kt_s0 kt_w1) rfl rfl rfl (by decide +kernel) ⟨Nat.le_of_ble_eq_true rfl, Nat.le_of_ble_eq_true rfl⟩) (kq_p2V (kr_K_s2 E A o) (hKK) (kq_recv hKK.1.1.1 hOo rfl)) rfl rfl hl.1 rfl (lv_room (Nat.le_of_ble_eq_true rfl)) d_Ke_point_6 ⟨Nat.zero_le _, Nat.zero_le _⟩) (fun v9 H9 L1 hq9 hL1 => ?_)
  obtain ⟨rfl, e9⟩ := hq9
  rw [e9]
  clear e9
  refine W.eq (g2 := F0 m 9 ls [.ref (o + 2 + kx3 a), .ref (o + 33)]) rfl ?_
  refine lv_aload_n hx hb d_Ke_point_9 rfl (lv_at hl 0 rfl) ?_
  refine lv_iload_n hx hb d_Ke_point_10 rfl (lv_at hl 3 rfl) ?_
  refine kq_call (va_runV (As := [.int b]) (rest := [.ref (o + 2 + kx3 a), .ref (o + 33)]) ⟨hx, hb, hml, hown, hts⟩ (c_Ke_register l E A o bs v H hE hA hO hW b) (cwV 1 hts (kt_inV kt_w159 kt_w156 kt_w158 kt_s0 kt_w1) rfl rfl rfl (by decide +kernel) ⟨Nat.le_of_ble_eq_true rfl, Nat.le_of_ble_eq_true rfl⟩) (kq_p2V (kr_K_s2 E A o) (hKK) (kq_recv hKK.1.1.1 hOo rfl)) rfl rfl hl.1 rfl (lv_room (Nat.le_of_ble_eq_true rfl)) d_Ke_point_11 ⟨Nat.zero_le _, Nat.zero_le _⟩) (fun v9 H9 L2 hq9 hL2 => ?_)
  obtain ⟨rfl, e9⟩ := hq9
  rw [e9]
  clear e9
  refine W.eq (g2 := F0 m 14 ls [.ref (o + 2 + kx3 b), .ref (o + 2 + kx3 a), .ref (o + 33)]) rfl ?_
  refine kq_call (va_runV (As := [.ref (o + 2 + kx3 a), .ref (o + 2 + kx3 b)]) (rest := []) ⟨hx, hb, hml, hown, hts⟩ (c_Cu_holds l E A (o + 19) (A 0) (A 6) 2 kG_P (o + 33) v H hE hA hO.2.2.2.1 hV hW (o + 2 + kx3 a) (o + 2 + kx3 b) hao hbo (by omega) (by omega)) (cwV 2 hts (kt_inV kt_w297 kt_w294 kt_w295 kt_w296 kt_w4) rfl rfl rfl (by decide +kernel) ⟨Nat.le_of_ble_eq_true rfl, Nat.le_of_ble_eq_true rfl⟩) (kq_p2V (kr_C_s2 E A) (hKK.1) (kq_recv hB.1 hOc rfl)) rfl rfl hl.1 rfl (lv_room (Nat.le_of_ble_eq_true rfl)) d_Ke_point_14 ⟨Nat.zero_le _, Nat.zero_le _⟩) (fun v9 H3 L3 hq9 hL3 => ?_)
  obtain ⟨rfl, w3, hW3, k3⟩ := hq9
  refine W.eq (g2 := F0 m 17 ls [.int (kq_z (decide (v (o + 2 + kx3 a) < kP ∧ v (o + 2 + kx3 b) < kP ∧ v (o + 2 + kx3 b) * v (o + 2 + kx3 b) % kP = kc_sq (v (o + 2 + kx3 a)))))]) rfl ?_
  have hlc3 : ∀ q_ ∈ ((([] : List Loc) ++ L1) ++ L2) ++ L3, q_.base = o + 7 + 3 * kx3 q ∨ q_.base = o + 7 + 3 * kx3 q + 1 ∨ q_.base = o + 7 + 3 * kx3 q + 2 ∨ kr_fr (o + 19) (o + 33) q_.base := (t_lL (free := (fun x => x = o + 7 + 3 * kx3 q ∨ x = o + 7 + 3 * kx3 q + 1 ∨ x = o + 7 + 3 * kx3 q + 2 ∨ kr_fr (o + 19) (o + 33) x)) (t_lL (free := (fun x => x = o + 7 + 3 * kx3 q ∨ x = o + 7 + 3 * kx3 q + 1 ∨ x = o + 7 + 3 * kx3 q + 2 ∨ kr_fr (o + 19) (o + 33) x)) (t_lL (free := (fun x => x = o + 7 + 3 * kx3 q ∨ x = o + 7 + 3 * kx3 q + 1 ∨ x = o + 7 + 3 * kx3 q + 2 ∨ kr_fr (o + 19) (o + 33) x)) (fun q h => by cases h) (fun q z => (hL1 q z).elim)) (fun q z => (hL2 q z).elim)) (fun q z => Or.inr (Or.inr (Or.inr (hL3 q z)))))
  have hOo3 := kr_obj hW3 hO.1 hO.2.1
  have hOs3 := kr_obj hW3 hS.1 hS.2.1
  refine lv_if_ne hx hb d_Ke_point_17 rfl (fun hc0 => ?_) (fun hc0 => ?_)
  · have hp : v (o + 2 + kx3 a) < kP ∧ v (o + 2 + kx3 b) < kP ∧ v (o + 2 + kx3 b) * v (o + 2 + kx3 b) % kP = kc_sq (v (o + 2 + kx3 a)) := kq_z_ne.mp hc0
    refine lv_aload_n hx hb d_Ke_point_22 rfl (lv_at hl 0 rfl) ?_
    refine lv_iload_n hx hb d_Ke_point_23 rfl (lv_at hl 1 rfl) ?_
    refine kq_call (va_runV (As := [.int q]) (rest := []) ⟨hx, hb, hml, hown, hts⟩ (c_Ke_spot l E A o bs w3 H3 hE hA hO hW3 q) (cwV 1 hts (kt_inV kt_w276 kt_w273 kt_w275 kt_s5 kt_w1) rfl rfl rfl (by decide +kernel) ⟨Nat.le_of_ble_eq_true rfl, Nat.le_of_ble_eq_true rfl⟩) (kq_p2V (kr_K_s2 E A o) (hKK) (kq_recv hKK.1.1.1 hOo3 rfl)) rfl rfl hl.1 rfl (lv_room (Nat.le_of_ble_eq_true rfl)) d_Ke_point_24 ⟨Nat.zero_le _, Nat.zero_le _⟩) (fun v9 H9 L4 hq9 hL4 => ?_)
    obtain ⟨rfl, e9⟩ := hq9
    rw [e9]
    clear e9
    refine W.eq (g2 := F0 m 27 ls [.ref (o + 7 + 3 * kx3 q)]) rfl ?_
    refine lv_aload_n hx hb d_Ke_point_27 rfl (lv_at hl 0 rfl) ?_
    refine lv_iload_n hx hb d_Ke_point_28 rfl (lv_at hl 2 rfl) ?_
    refine kq_call (va_runV (As := [.int a]) (rest := [.ref (o + 7 + 3 * kx3 q)]) ⟨hx, hb, hml, hown, hts⟩ (c_Ke_register l E A o bs w3 H3 hE hA hO hW3 a) (cwV 1 hts (kt_inV kt_w159 kt_w156 kt_w158 kt_s0 kt_w1) rfl rfl rfl (by decide +kernel) ⟨Nat.le_of_ble_eq_true rfl, Nat.le_of_ble_eq_true rfl⟩) (kq_p2V (kr_K_s2 E A o) (hKK) (kq_recv hKK.1.1.1 hOo3 rfl)) rfl rfl hl.1 rfl (lv_room (Nat.le_of_ble_eq_true rfl)) d_Ke_point_29 ⟨Nat.zero_le _, Nat.zero_le _⟩) (fun v9 H9 L5 hq9 hL5 => ?_)
    obtain ⟨rfl, e9⟩ := hq9
    rw [e9]
    clear e9
    refine W.eq (g2 := F0 m 32 ls [.ref (o + 2 + kx3 a), .ref (o + 7 + 3 * kx3 q)]) rfl ?_
    refine lv_aload_n hx hb d_Ke_point_32 rfl (lv_at hl 0 rfl) ?_
    refine lv_iload_n hx hb d_Ke_point_33 rfl (lv_at hl 3 rfl) ?_
    refine kq_call (va_runV (As := [.int b]) (rest := [.ref (o + 2 + kx3 a), .ref (o + 7 + 3 * kx3 q)]) ⟨hx, hb, hml, hown, hts⟩ (c_Ke_register l E A o bs w3 H3 hE hA hO hW3 b) (cwV 1 hts (kt_inV kt_w159 kt_w156 kt_w158 kt_s0 kt_w1) rfl rfl rfl (by decide +kernel) ⟨Nat.le_of_ble_eq_true rfl, Nat.le_of_ble_eq_true rfl⟩) (kq_p2V (kr_K_s2 E A o) (hKK) (kq_recv hKK.1.1.1 hOo3 rfl)) rfl rfl hl.1 rfl (lv_room (Nat.le_of_ble_eq_true rfl)) d_Ke_point_34 ⟨Nat.zero_le _, Nat.zero_le _⟩) (fun v9 H9 L6 hq9 hL6 => ?_)
    obtain ⟨rfl, e9⟩ := hq9
    rw [e9]
    clear e9
    refine W.eq (g2 := F0 m 37 ls [.ref (o + 2 + kx3 b), .ref (o + 2 + kx3 a), .ref (o + 7 + 3 * kx3 q)]) rfl ?_
    refine kq_call (va_runV (As := [.ref (o + 2 + kx3 a), .ref (o + 2 + kx3 b)]) (rest := []) ⟨hx, hb, hml, hown, hts⟩ (c_Sp_become l E w3 H3 hE hW3 (o + 7 + 3 * kx3 q) (bs (kx3 q)) hS (o + 2 + kx3 a) (o + 2 + kx3 b) (Or.inl hao) (Or.inl hbo) (by omega)) (cwV 2 hts (kt_inV kt_w284 kt_w281 kt_w282 kt_w283 kt_w2) rfl rfl rfl (by decide +kernel) ⟨Nat.le_of_ble_eq_true rfl, Nat.le_of_ble_eq_true rfl⟩) (kq_preV (kr_st E) (hB) (kq_recv hB.1 hOs3 rfl)) rfl rfl hl.1 rfl (lv_room (Nat.le_of_ble_eq_true rfl)) d_Ke_point_37 ⟨Nat.zero_le _, Nat.zero_le _⟩) (fun v9 H9 L7 hq9 hL7 => ?_)
    obtain ⟨rfl, hX⟩ := hq9
    refine W.eq (g2 := F0 m 40 ls []) rfl ?_
    refine lv_iconst (v := nI 1) hx hb d_Ke_point_40 (by decide) ?_
    refine W.zret hx hb hret rfl (fun t ht _ => ⟨_, rfl, by rw [kq_z_t hp], _, by rw [ht, if_pos hp]; exact hX, ?_, ?_, fun x x1 x2 x3 => ?_⟩) (t_lL (free := (fun x => x = o + 7 + 3 * kx3 q ∨ x = o + 7 + 3 * kx3 q + 1 ∨ x = o + 7 + 3 * kx3 q + 2 ∨ kr_fr (o + 19) (o + 33) x)) (t_lL (free := (fun x => x = o + 7 + 3 * kx3 q ∨ x = o + 7 + 3 * kx3 q + 1 ∨ x = o + 7 + 3 * kx3 q + 2 ∨ kr_fr (o + 19) (o + 33) x)) (t_lL (free := (fun x => x = o + 7 + 3 * kx3 q ∨ x = o + 7 + 3 * kx3 q + 1 ∨ x = o + 7 + 3 * kx3 q + 2 ∨ kr_fr (o + 19) (o + 33) x)) (t_lL (free := (fun x => x = o + 7 + 3 * kx3 q ∨ x = o + 7 + 3 * kx3 q + 1 ∨ x = o + 7 + 3 * kx3 q + 2 ∨ kr_fr (o + 19) (o + 33) x)) hlc3 (fun q z => (hL4 q z).elim)) (fun q z => (hL5 q z).elim)) (fun q z => (hL6 q z).elim)) (fun q z => by rcases hL7 q z with z | z | z <;> simp [z])) d_Ke_point_41
    · rw [if_pos hp, kq_up_ne (by omega), kq_up_at]
      exact k3 _ (by unfold kr_fr; omega)
    · rw [if_pos hp, kq_up_at]
      exact k3 _ (by unfold kr_fr; omega)
    · rw [kq_up_ne x2, kq_up_ne x1]
      exact k3 x x3
  · have hp : ¬ (v (o + 2 + kx3 a) < kP ∧ v (o + 2 + kx3 b) < kP ∧ v (o + 2 + kx3 b) * v (o + 2 + kx3 b) % kP = kc_sq (v (o + 2 + kx3 a))) := kq_z_eq.mp hc0
    refine lv_iconst (v := nI 0) hx hb d_Ke_point_20 (by decide) ?_
    exact W.zret hx hb hret rfl (fun t ht _ => ⟨_, rfl, by rw [kq_z_f hp], w3, by rw [ht, if_neg hp]; exact kr_Wb_same hW3 hS, by rw [if_neg hp]; exact k3 _ (by unfold kr_fr; omega), by rw [if_neg hp]; exact k3 _ (by unfold kr_fr; omega), fun x _ _ x3 => k3 x x3⟩) hlc3 d_Ke_point_21
theorem d_Ke_lift_0 : decode b_Ke_lift 0 = .ok (.aload_n 0, 1) := by decide +kernel
theorem d_Ke_lift_1 : decode b_Ke_lift 1 = .ok (.getfield 51, 3) := by decide +kernel
theorem d_Ke_lift_4 : decode b_Ke_lift 4 = .ok (.aload_n 0, 1) := by decide +kernel
theorem d_Ke_lift_5 : decode b_Ke_lift 5 = .ok (.iload_n 1, 1) := by decide +kernel
theorem d_Ke_lift_6 : decode b_Ke_lift 6 = .ok (.invokevirtual 82, 3) := by decide +kernel
theorem d_Ke_lift_9 : decode b_Ke_lift 9 = .ok (.aload_n 0, 1) := by decide +kernel
theorem d_Ke_lift_10 : decode b_Ke_lift 10 = .ok (.iload_n 2, 1) := by decide +kernel
theorem d_Ke_lift_11 : decode b_Ke_lift 11 = .ok (.invokevirtual 55, 3) := by decide +kernel
theorem d_Ke_lift_14 : decode b_Ke_lift 14 = .ok (.iload_n 3, 1) := by decide +kernel
theorem d_Ke_lift_15 : decode b_Ke_lift 15 = .ok (.invokevirtual 103, 3) := by decide +kernel
theorem d_Ke_lift_18 : decode b_Ke_lift 18 = .ok (.ireturn, 1) := by decide +kernel
set_option maxHeartbeats 4000000 in
set_option maxRecDepth 100000 in
theorem c_Ke_lift (l : Launch) (E : kr_E) (A : Nat → Nat) (o : Nat) (bs : Nat → Bool) (v : Nat → Nat) (H : Heap) (hE : kr_ok E) (hA : kr_A E A) (hO : kr_O E A o bs) (hW : kr_W E v H) (q a : Int32) (d : Bool) : Met l y_Ke_lift w_Ke_lift ({ frames := 6, cells := 0, slots := 0, locals := 144 }) (kq_P [.ref o, .int q, .int a, .int (kq_z d)] H (kr_K E A o)) (kq_Q (fun o1 H1 => o1 = some (.int (kq_z (kc_hasb (v (o + 2 + kx3 a))))) ∧ ∃ w : Nat → Nat, kr_Wb E (o + 7 + 3 * kx3 q) (if kc_hasb (v (o + 2 + kx3 a)) = true then false else bs (kx3 q)) w H1 ∧ w (o + 7 + 3 * kx3 q + 1) = (if kc_hasb (v (o + 2 + kx3 a)) = true then v (o + 2 + kx3 a) else v (o + 7 + 3 * kx3 q + 1)) ∧ w (o + 7 + 3 * kx3 q + 2) = (if kc_hasb (v (o + 2 + kx3 a)) = true then kc_y (v (o + 2 + kx3 a)) d else v (o + 7 + 3 * kx3 q + 2)) ∧ ∀ x, x ≠ o + 7 + 3 * kx3 q + 1 → x ≠ o + 7 + 3 * kx3 q + 2 → ¬ kr_fr (o + 19) (o + 33) x → w x = v x)) 0 0 (fun x => x = o + 7 + 3 * kx3 q ∨ x = o + 7 + 3 * kx3 q + 1 ∨ x = o + 7 + 3 * kx3 q + 2 ∨ kr_fr (o + 19) (o + 33) x) := by
  refine Met.ofW (cc := b_Ke_lift) (maxL := 4) (ret := (some .boolean)) (by decide) rfl ?_
  intro p e s m args below meth c s₁ B0 hml hv
  obtain ⟨rfl, hH, hKK⟩ := hv
  have hx := B0.exec
  have hb := B0.bytes
  have hret := B0.returns
  have hts := atoms_spec (ws := w_Ke_lift) B0.pre
  have hown : s.vm.findClass R_Ke = some m.cls := findClass_of_methodNamed B0.named
  have hlocks := B0.notSynchronized
  rw [hH]
  have hl := lv_entry ([.ref o, .int q, .int a, .int (kq_z d)]) (n := 4) (Nat.le_of_ble_eq_true rfl)
  rw [lg_entry_eq]
  generalize (lg_sl ([.ref o, .int q, .int a, .int (kq_z d)]) ++ List.replicate (4 - (lg_sl ([.ref o, .int q, .int a, .int (kq_z d)])).length) Slot.unset).toArray = ls at hl ⊢
  have hl : lv_has ls 4 [(0, .ref o), (1, .int q), (2, .int a), (3, .int (kq_z d))] := hl
  have hB := hKK.1.1
  have hT := kr_T hE hB
  have hK := hB.1
  have hOo := kr_obj hW hO.1 hO.2.1
  have hao := hO.2.2.2.2.2.2.1 (kx3 a) (kx3_lt a)
  have hS := hO.2.2.2.2.2.2.2 (kx3 q) (kx3_lt q)
  have hV := hO.2.2.2.2.2.1
  have hOc := kr_obj hW hV.1 hV.2.1
  have l1 := kx3_lt q
  have l2 := kx3_lt a
  refine lv_aload_n hx hb d_Ke_lift_0 rfl (lv_at hl 0 rfl) ?_
  refine kq_get hx hb hts kt_F_Ke hown hK hOo rfl 4 (by decide) kt_w140 rfl d_Ke_lift_1 ?_
  refine lv_aload_n hx hb d_Ke_lift_4 rfl (lv_at hl 0 rfl) ?_
  refine lv_iload_n hx hb d_Ke_lift_5 rfl (lv_at hl 1 rfl) ?_
  refine kq_call (va_runV (As := [.int q]) (rest := [.ref (o + 33)]) ⟨hx, hb, hml, hown, hts⟩ (c_Ke_spot l E A o bs v H hE hA hO hW q) (cwV 1 hts (kt_inV kt_w276 kt_w273 kt_w275 kt_s5 kt_w1) rfl rfl rfl (by decide +kernel) ⟨Nat.le_of_ble_eq_true rfl, Nat.le_of_ble_eq_true rfl⟩) (kq_p2V (kr_K_s2 E A o) (hKK) (kq_recv hKK.1.1.1 hOo rfl)) rfl rfl hl.1 rfl (lv_room (Nat.le_of_ble_eq_true rfl)) d_Ke_lift_6 ⟨Nat.zero_le _, Nat.zero_le _⟩) (fun v9 H9 L1 hq9 hL1 => ?_)
  obtain ⟨rfl, e9⟩ := hq9
  rw [e9]
  clear e9
  refine W.eq (g2 := F0 m 9 ls [.ref (o + 7 + 3 * kx3 q), .ref (o + 33)]) rfl ?_
  refine lv_aload_n hx hb d_Ke_lift_9 rfl (lv_at hl 0 rfl) ?_
  refine lv_iload_n hx hb d_Ke_lift_10 rfl (lv_at hl 2 rfl) ?_
  refine kq_call (va_runV (As := [.int a]) (rest := [.ref (o + 7 + 3 * kx3 q), .ref (o + 33)]) ⟨hx, hb, hml, hown, hts⟩ (c_Ke_register l E A o bs v H hE hA hO hW a) (cwV 1 hts (kt_inV kt_w159 kt_w156 kt_w158 kt_s0 kt_w1) rfl rfl rfl (by decide +kernel) ⟨Nat.le_of_ble_eq_true rfl, Nat.le_of_ble_eq_true rfl⟩) (kq_p2V (kr_K_s2 E A o) (hKK) (kq_recv hKK.1.1.1 hOo rfl)) rfl rfl hl.1 rfl (lv_room (Nat.le_of_ble_eq_true rfl)) d_Ke_lift_11 ⟨Nat.zero_le _, Nat.zero_le _⟩) (fun v9 H9 L2 hq9 hL2 => ?_)
  obtain ⟨rfl, e9⟩ := hq9
  rw [e9]
  clear e9
  refine W.eq (g2 := F0 m 14 ls [.ref (o + 2 + kx3 a), .ref (o + 7 + 3 * kx3 q), .ref (o + 33)]) rfl ?_
  refine lv_iload_n hx hb d_Ke_lift_14 rfl (lv_at hl 3 rfl) ?_
  refine kq_call (va_runV (As := [.ref (o + 7 + 3 * kx3 q), .ref (o + 2 + kx3 a), .int (kq_z d)]) (rest := []) ⟨hx, hb, hml, hown, hts⟩ (c_Cu_findByX l E A (o + 19) (A 0) (A 6) 2 kG_P (o + 33) (o + 7 + 3 * kx3 q) v H hE hA hO.2.2.2.1 hV hW (bs (kx3 q)) d hS (by omega) (o + 2 + kx3 a) hao (by omega) ⟨by omega, by omega⟩) (cwV 3 hts (kt_inV kt_w313 kt_w310 kt_w311 kt_w312 kt_w4) rfl rfl rfl (by decide +kernel) ⟨Nat.le_of_ble_eq_true rfl, Nat.le_of_ble_eq_true rfl⟩) (kq_p2V (kr_C_s2 E A) (hKK.1) (kq_recv hB.1 hOc rfl)) rfl rfl hl.1 rfl (lv_room (Nat.le_of_ble_eq_true rfl)) d_Ke_lift_15 ⟨Nat.zero_le _, Nat.zero_le _⟩) (fun v9 H9 L3 hq9 hL3 => ?_)
  obtain ⟨rfl, w9, h1, h2, h3, h4⟩ := hq9
  refine W.eq (g2 := F0 m 18 ls [.int (kq_z (kc_hasb (v (o + 2 + kx3 a))))]) rfl ?_
  exact W.zret hx hb hret (by unfold kq_z; split <;> rfl) (fun t ht _ => ⟨_, rfl, rfl, w9, by rw [ht]; exact h1, h2, h3, h4⟩) (t_lL (free := (fun x => x = o + 7 + 3 * kx3 q ∨ x = o + 7 + 3 * kx3 q + 1 ∨ x = o + 7 + 3 * kx3 q + 2 ∨ kr_fr (o + 19) (o + 33) x)) (t_lL (free := (fun x => x = o + 7 + 3 * kx3 q ∨ x = o + 7 + 3 * kx3 q + 1 ∨ x = o + 7 + 3 * kx3 q + 2 ∨ kr_fr (o + 19) (o + 33) x)) (t_lL (free := (fun x => x = o + 7 + 3 * kx3 q ∨ x = o + 7 + 3 * kx3 q + 1 ∨ x = o + 7 + 3 * kx3 q + 2 ∨ kr_fr (o + 19) (o + 33) x)) (fun q h => by cases h) (fun q z => (hL1 q z).elim)) (fun q z => (hL2 q z).elim)) hL3) d_Ke_lift_18
