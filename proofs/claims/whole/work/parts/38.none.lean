/-! KeyCurveModel: none, take, same (own rows). -/
def ks_KZ (E : ks_E) (A : Nat → Nat) (mo : Nat) (cZ : ClassId) (U : State) : Prop := ks_K E A mo U ∧ ArrOfT U cZ .boolean
theorem ks_KZ_st (E : ks_E) (A : Nat → Nat) (mo : Nat) (cZ : ClassId) : kq_st (ks_KZ E A mo cZ) := (ks_K_st E A mo).both kq_st_A
def kx_ub (bs : Nat → Bool) (k : Nat) (b : Bool) : Nat → Bool := fun i => if i = k then b else bs i
section KZ
variable {p : Program} {l : Launch} {e : Env} {R : Room} {s : State} {m : MethodId} {args : Array Value} {below : List Frame} {meth : Method} {c : Code} {H : Heap} {locs : List Loc} {cells slots : Nat} {Q : State → Prop}
variable {cc : ByteArray} {pc : Nat} {ls : Array Slot} {rest : List Value}
theorem kq_zald (hexec : p.tables.exec = Jvm.exec) (hb : c.code = cc) {a n : Nat} {f : Nat → Value} (h : kq_r s .boolean H a n f) {j : Nat} (hj : j < n) (hn : n < 2147483648) {v : Value} (hv : f j = v) (hdg : decode cc pc = .ok (.baload, 1))
    (kk : W p l e R s m args below meth c H locs cells slots Q (F0 m (pc + 1) ls (v :: rest))) : W p l e R s m args below meth c H locs cells slots Q (F0 m pc ls (.int (nI j) :: .ref a :: rest)) := by
  obtain ⟨cell, h1, h2, h3, h4, h5⟩ := h
  exact W.zald (v := v) hexec hb h1 h2 h3 (kq_in hj hn h4) (by rw [nI_clamp (by omega), h5 j hj, hv]) rfl rfl hdg kk
theorem kq_B_put (cZ : ClassId) (bs : Nat → Bool) (j : Nat) (b : Bool) : arrV cZ 4 (updV (fun j => .int (kq_z (bs j))) j (narrow .boolean (.int (kq_z b)))) = kq_B cZ (kx_ub bs j b) := by
  unfold kq_B
  congr 1
  funext i
  unfold updV kx_ub
  split
  · cases b <;> rfl
  · rfl
theorem kq_zast (hexec : p.tables.exec = Jvm.exec) (hb : c.code = cc) {a : Nat} {cZ : ClassId} {bs : Nat → Bool} (hT : ArrOfT s cZ .boolean) (h : H[a]? = some (kq_B cZ bs)) {j : Nat} {b : Bool} (hj : j < 4) (hdg : decode cc pc = .ok (.bastore, 1))
    (kk : ∀ H1 : Heap, H1[a]? = some (kq_B cZ (kx_ub bs j b)) → H1.size = H.size → (∀ q : Nat, q ≠ a → H1[q]? = H[q]?) → W p l e R s m args below meth c H1 (locs ++ [⟨a, j⟩]) cells slots Q (F0 m (pc + 1) ls rest)) : W p l e R s m args below meth c H locs cells slots Q (F0 m pc ls (.int (kq_z b) :: .int (nI j) :: .ref a :: rest)) := by
  have hsz : (kq_B cZ bs).slots.size = 4 := arrV_size cZ 4 _
  refine W.zast hexec hb h (hT 4 _) (fun q => by cases q) (kq_in hj (by decide) (by omega)) rfl rfl hdg (fun H1 e1 e2 e3 => ?_)
  rw [nI_clamp (by omega)] at e1 ⊢
  unfold kq_B at e1
  rw [arrV_store, kq_B_put] at e1
  exact kk H1 e1 e2 e3
end KZ
theorem d_Mo_none_0 : decode b_Mo_none 0 = .ok (.aload_n 0, 1) := by decide +kernel
theorem d_Mo_none_1 : decode b_Mo_none 1 = .ok (.getfield 20, 3) := by decide +kernel
theorem d_Mo_none_4 : decode b_Mo_none 4 = .ok (.iload_n 1, 1) := by decide +kernel
theorem d_Mo_none_5 : decode b_Mo_none 5 = .ok (.iconst 3, 1) := by decide +kernel
theorem d_Mo_none_6 : decode b_Mo_none 6 = .ok (.iand, 1) := by decide +kernel
theorem d_Mo_none_7 : decode b_Mo_none 7 = .ok (.iconst 1, 1) := by decide +kernel
theorem d_Mo_none_8 : decode b_Mo_none 8 = .ok (.bastore, 1) := by decide +kernel
theorem d_Mo_none_9 : decode b_Mo_none 9 = .ok (.return_, 1) := by decide +kernel
set_option maxHeartbeats 4000000 in
set_option maxRecDepth 100000 in
theorem c_Mo_none (l : Launch) (E : ks_E) (A : Nat → Nat) (mo : Nat) (cZ : ClassId) (far : Bool) (bs : Nat → Bool) (v : Nat → Nat) (H : Heap) (hE : ks_ok E) (hA : ks_A E A) (hG : ks_G E mo) (hF : ks_F E mo cZ far bs) (hW : ks_W E v H) (q : Int32) : Met l y_Mo_none w_Mo_none ({ frames := 0, cells := 0, slots := 0, locals := 0 }) (kq_P [.ref mo, .int q] H (ks_KZ E A mo cZ)) (kq_Q (fun o1 H1 => o1 = none ∧ ks_X E mo cZ far (kx_ub bs (kx3 q) true) v H1)) 0 0 (fun x => x = mo + 16) := by
  refine Met.ofW (cc := b_Mo_none) (maxL := 2) (ret := none) (by decide) rfl ?_
  intro p e s m args below meth c s₁ B0 hml hv
  obtain ⟨rfl, hH, hKZ⟩ := hv
  have hx := B0.exec
  have hb := B0.bytes
  have hret := B0.returns
  have hts := atoms_spec (ws := w_Mo_none) B0.pre
  have hown : s.vm.findClass R_Mo = some m.cls := findClass_of_methodNamed B0.named
  have hlocks := B0.notSynchronized
  rw [hH]
  have hl := lv_entry ([.ref mo, .int q]) (n := 2) (Nat.le_of_ble_eq_true rfl)
  rw [lg_entry_eq]
  generalize (lg_sl ([.ref mo, .int q]) ++ List.replicate (2 - (lg_sl ([.ref mo, .int q])).length) Slot.unset).toArray = ls at hl ⊢
  have hl : lv_has ls 2 [(0, .ref mo), (1, .int q)] := hl
  have hKK := hKZ.1
  have hC := hKK.1
  have hB := hC.1
  have hK := hB.1
  have hT := ks_T hE hB
  have hO := hF.1
  have hOo := ks_obj hW hO.1 hO.2.1
  have hNn : H[mo + 16]? = some (kq_B cZ bs) := (hW.2.2.1 _ hF.2.2.1).trans hF.2.1
  have hzr : kq_r s .boolean H (mo + 16) 4 (fun j => .int (kq_z (bs j))) := kq_r.ofV hKZ.2 hNn
  have har := hKK.2.1.other (hW.2.2.1 (mo + 1) hG.2.1)
  have hax := hKK.2.2.1.other (hW.2.2.1 (mo + 6) hG.2.2.1)
  have hay := hKK.2.2.2.other (hW.2.2.1 (mo + 11) hG.2.2.2)
  refine lv_aload_n hx hb d_Mo_none_0 rfl (lv_at hl 0 rfl) ?_
  refine kq_get hx hb hts kt_F_Mo hown hK hOo rfl 3 (by decide) kt_w379 rfl d_Mo_none_1 ?_
  refine lv_iload_n hx hb d_Mo_none_4 rfl (lv_at hl 1 rfl) ?_
  refine lv_iconst (v := nI 3) hx hb d_Mo_none_5 (by decide) ?_
  refine lv_iand hx hb d_Mo_none_6 ?_
  refine kq_ri (show q &&& (nI 3) = nI (kx3 q) from kx_and3 q) ?_
  refine lv_iconst (v := nI 1) hx hb d_Mo_none_7 (by decide) ?_
  refine kq_ri (show nI 1 = kq_z true from rfl) ?_
  refine kq_zast hx hb hKZ.2 hNn (kx3_lt q) d_Mo_none_8 (fun H1 e1 e2 e3 => ?_)
  refine W.vret hx hb hret (fun t ht _ => ⟨_, rfl, rfl, ?_⟩) (t_lc (free := fun x => x = mo + 16) (fun q h => by cases h) rfl) d_Mo_none_9
  rw [ht]
  exact ks_X_new hW hF e2 (fun x _ x2 => e3 x x2) (hOo.kept (fun k z hk => by
    have h0 : k < 1 := (List.getElem?_eq_some_iff.mp hk).1
    rw [show k = 0 by omega] at hk
    cases hk
    exact e3 mo (by omega))) e1
theorem d_Mo_take_0 : decode b_Mo_take 0 = .ok (.aload_n 0, 1) := by decide +kernel
theorem d_Mo_take_1 : decode b_Mo_take 1 = .ok (.getfield 20, 3) := by decide +kernel
theorem d_Mo_take_4 : decode b_Mo_take 4 = .ok (.iload_n 2, 1) := by decide +kernel
theorem d_Mo_take_5 : decode b_Mo_take 5 = .ok (.iconst 3, 1) := by decide +kernel
theorem d_Mo_take_6 : decode b_Mo_take 6 = .ok (.iand, 1) := by decide +kernel
theorem d_Mo_take_7 : decode b_Mo_take 7 = .ok (.baload, 1) := by decide +kernel
theorem d_Mo_take_8 : decode b_Mo_take 8 = .ok (.ifCond .eq 5, 3) := by decide +kernel
theorem d_Mo_take_11 : decode b_Mo_take 11 = .ok (.iconst 0, 1) := by decide +kernel
theorem d_Mo_take_12 : decode b_Mo_take 12 = .ok (.ireturn, 1) := by decide +kernel
theorem d_Mo_take_13 : decode b_Mo_take 13 = .ok (.aload_n 0, 1) := by decide +kernel
theorem d_Mo_take_14 : decode b_Mo_take 14 = .ok (.getfield 9, 3) := by decide +kernel
theorem d_Mo_take_17 : decode b_Mo_take 17 = .ok (.iload_n 1, 1) := by decide +kernel
theorem d_Mo_take_18 : decode b_Mo_take 18 = .ok (.iconst 3, 1) := by decide +kernel
theorem d_Mo_take_19 : decode b_Mo_take 19 = .ok (.iand, 1) := by decide +kernel
theorem d_Mo_take_20 : decode b_Mo_take 20 = .ok (.aaload, 1) := by decide +kernel
theorem d_Mo_take_21 : decode b_Mo_take 21 = .ok (.iload_n 3, 1) := by decide +kernel
theorem d_Mo_take_22 : decode b_Mo_take 22 = .ok (.ifCond .eq 14, 3) := by decide +kernel
theorem d_Mo_take_25 : decode b_Mo_take 25 = .ok (.aload_n 0, 1) := by decide +kernel
theorem d_Mo_take_26 : decode b_Mo_take 26 = .ok (.getfield 17, 3) := by decide +kernel
theorem d_Mo_take_29 : decode b_Mo_take 29 = .ok (.iload_n 2, 1) := by decide +kernel
theorem d_Mo_take_30 : decode b_Mo_take 30 = .ok (.iconst 3, 1) := by decide +kernel
theorem d_Mo_take_31 : decode b_Mo_take 31 = .ok (.iand, 1) := by decide +kernel
theorem d_Mo_take_32 : decode b_Mo_take 32 = .ok (.aaload, 1) := by decide +kernel
theorem d_Mo_take_33 : decode b_Mo_take 33 = .ok (.goto 11, 3) := by decide +kernel
theorem d_Mo_take_36 : decode b_Mo_take 36 = .ok (.aload_n 0, 1) := by decide +kernel
theorem d_Mo_take_37 : decode b_Mo_take 37 = .ok (.getfield 14, 3) := by decide +kernel
theorem d_Mo_take_40 : decode b_Mo_take 40 = .ok (.iload_n 2, 1) := by decide +kernel
theorem d_Mo_take_41 : decode b_Mo_take 41 = .ok (.iconst 3, 1) := by decide +kernel
theorem d_Mo_take_42 : decode b_Mo_take 42 = .ok (.iand, 1) := by decide +kernel
theorem d_Mo_take_43 : decode b_Mo_take 43 = .ok (.aaload, 1) := by decide +kernel
theorem d_Mo_take_44 : decode b_Mo_take 44 = .ok (.invokestatic 104, 3) := by decide +kernel
theorem d_Mo_take_47 : decode b_Mo_take 47 = .ok (.iconst 1, 1) := by decide +kernel
theorem d_Mo_take_48 : decode b_Mo_take 48 = .ok (.ireturn, 1) := by decide +kernel
set_option maxHeartbeats 4000000 in
set_option maxRecDepth 100000 in
theorem c_Mo_take (l : Launch) (E : ks_E) (A : Nat → Nat) (mo : Nat) (cZ : ClassId) (far : Bool) (bs : Nat → Bool) (v : Nat → Nat) (H : Heap) (hE : ks_ok E) (hA : ks_A E A) (hG : ks_G E mo) (hF : ks_F E mo cZ far bs) (hW : ks_W E v H) (r q : Int32) (d : Bool) : Met l y_Mo_take w_Mo_take ({ frames := 2, cells := 0, slots := 0, locals := 41 }) (kq_P [.ref mo, .int r, .int q, .int (kq_z d)] H (ks_KZ E A mo cZ)) (kq_Q (fun o1 H1 => o1 = some (.int (kq_z (!bs (kx3 q)))) ∧ ks_W E (va_up v (mo + 2 + kx3 r) (if bs (kx3 q) = true then v (mo + 2 + kx3 r) else (if d = true then v (mo + 12 + kx3 q) else v (mo + 7 + kx3 q)))) H1)) 0 0 (fun x => x = mo + 2 + kx3 r) := by
  refine Met.ofW (cc := b_Mo_take) (maxL := 4) (ret := (some .boolean)) (by decide) rfl ?_
  intro p e s m args below meth c s₁ B0 hml hv
  obtain ⟨rfl, hH, hKZ⟩ := hv
  have hx := B0.exec
  have hb := B0.bytes
  have hret := B0.returns
  have hts := atoms_spec (ws := w_Mo_take) B0.pre
  have hown : s.vm.findClass R_Mo = some m.cls := findClass_of_methodNamed B0.named
  have hlocks := B0.notSynchronized
  rw [hH]
  have hl := lv_entry ([.ref mo, .int r, .int q, .int (kq_z d)]) (n := 4) (Nat.le_of_ble_eq_true rfl)
  rw [lg_entry_eq]
  generalize (lg_sl ([.ref mo, .int r, .int q, .int (kq_z d)]) ++ List.replicate (4 - (lg_sl ([.ref mo, .int r, .int q, .int (kq_z d)])).length) Slot.unset).toArray = ls at hl ⊢
  have hl : lv_has ls 4 [(0, .ref mo), (1, .int r), (2, .int q), (3, .int (kq_z d))] := hl
  have hKK := hKZ.1
  have hC := hKK.1
  have hB := hC.1
  have hK := hB.1
  have hT := ks_T hE hB
  have hO := hF.1
  have hOo := ks_obj hW hO.1 hO.2.1
  have hNn : H[mo + 16]? = some (kq_B cZ bs) := (hW.2.2.1 _ hF.2.2.1).trans hF.2.1
  have hzr : kq_r s .boolean H (mo + 16) 4 (fun j => .int (kq_z (bs j))) := kq_r.ofV hKZ.2 hNn
  have har := hKK.2.1.other (hW.2.2.1 (mo + 1) hG.2.1)
  have hax := hKK.2.2.1.other (hW.2.2.1 (mo + 6) hG.2.2.1)
  have hay := hKK.2.2.2.other (hW.2.2.1 (mo + 11) hG.2.2.2)
  have hro := (hG.1 (kx3 r) (kx3_lt r)).1
  have hxo := (hG.1 (kx3 q) (kx3_lt q)).2.1
  have hyo := (hG.1 (kx3 q) (kx3_lt q)).2.2
  refine lv_aload_n hx hb d_Mo_take_0 rfl (lv_at hl 0 rfl) ?_
  refine kq_get hx hb hts kt_F_Mo hown hK hOo rfl 3 (by decide) kt_w379 rfl d_Mo_take_1 ?_
  refine lv_iload_n hx hb d_Mo_take_4 rfl (lv_at hl 2 rfl) ?_
  refine lv_iconst (v := nI 3) hx hb d_Mo_take_5 (by decide) ?_
  refine lv_iand hx hb d_Mo_take_6 ?_
  refine kq_ri (show q &&& (nI 3) = nI (kx3 q) from kx_and3 q) ?_
  refine kq_zald hx hb hzr (kx3_lt q) (by decide) rfl d_Mo_take_7 ?_
  refine lv_if_eq hx hb d_Mo_take_8 rfl (fun hz => ?_) (fun hz => ?_)
  · have hbq := kq_z_b0 hz
    refine lv_aload_n hx hb d_Mo_take_13 rfl (lv_at hl 0 rfl) ?_
    refine kq_get hx hb hts kt_F_Mo hown hK hOo rfl 0 (by decide) kt_w376 rfl d_Mo_take_14 ?_
    refine lv_iload_n hx hb d_Mo_take_17 rfl (lv_at hl 1 rfl) ?_
    refine lv_iconst (v := nI 3) hx hb d_Mo_take_18 (by decide) ?_
    refine lv_iand hx hb d_Mo_take_19 ?_
    refine kq_ri (show r &&& (nI 3) = nI (kx3 r) from kx_and3 r) ?_
    refine kq_aald hx hb (har) rfl (kx3_lt r) (by decide) (rfl) d_Mo_take_20 ?_
    refine lv_iload_n hx hb d_Mo_take_21 rfl (lv_at hl 3 rfl) ?_
    refine lv_if_eq hx hb d_Mo_take_22 rfl (fun hc0 => ?_) (fun hc0 => ?_)
    · have hd := kq_z_b0 hc0
      subst hd
      have hs := ks_src hE hW hB (Or.inl hxo)
      have hl8 := ks_lt hE hW (Or.inl hxo)
      refine lv_aload_n hx hb d_Mo_take_36 rfl (lv_at hl 0 rfl) ?_
      refine kq_get hx hb hts kt_F_Mo hown hK hOo rfl 1 (by decide) kt_w377 rfl d_Mo_take_37 ?_
      refine lv_iload_n hx hb d_Mo_take_40 rfl (lv_at hl 2 rfl) ?_
      refine lv_iconst (v := nI 3) hx hb d_Mo_take_41 (by decide) ?_
      refine lv_iand hx hb d_Mo_take_42 ?_
      refine kq_ri (show q &&& (nI 3) = nI (kx3 q) from kx_and3 q) ?_
      refine kq_aald hx hb (hax) rfl (kx3_lt q) (by decide) (rfl) d_Mo_take_43 ?_
      refine kq_call (va_runS (As := [.ref (mo + 2 + kx3 r), .ref (mo + 7 + kx3 q)]) (rest := []) ⟨hx, hb, hml, hown, hts⟩ (c_Mo_copy l H (ks_c E) (mo + 2 + kx3 r) (mo + 7 + kx3 q) _ (v (mo + 7 + kx3 q)) (ks_row hW hro)) (va_cwS 2 hts (kt_inS kt_w461 kt_w459 kt_w460 kt_w5) rfl rfl rfl (by decide +kernel) ⟨Nat.le_of_ble_eq_true rfl, Nat.le_of_ble_eq_true rfl⟩) (kq_preS (kq_st_A.both kq_st_r) (⟨hT, hs⟩)) rfl rfl hl.1 rfl (lv_room (Nat.le_of_ble_eq_true rfl)) d_Mo_take_44 ⟨Nat.zero_le _, Nat.zero_le _⟩) (fun v9 H9 L1 hq9 hL1 => ?_)
      obtain ⟨rfl, rfl⟩ := hq9
      refine W.eq (g2 := F0 m 47 ls []) rfl ?_
      refine lv_iconst (v := nI 1) hx hb d_Mo_take_47 (by decide) ?_
      exact W.zret hx hb hret rfl (fun t ht _ => ⟨_, rfl, by rw [hbq]; rfl, by rw [ht, hbq, if_neg (by decide), if_neg (by decide)]; exact ks_put hE hW hro hl8⟩) (t_lL (free := fun x => x = mo + 2 + kx3 r) (fun q h => by cases h) hL1) d_Mo_take_48
    · have hd := kq_z_b1 hc0
      subst hd
      have hs := ks_src hE hW hB (Or.inl hyo)
      have hl8 := ks_lt hE hW (Or.inl hyo)
      refine lv_aload_n hx hb d_Mo_take_25 rfl (lv_at hl 0 rfl) ?_
      refine kq_get hx hb hts kt_F_Mo hown hK hOo rfl 2 (by decide) kt_w378 rfl d_Mo_take_26 ?_
      refine lv_iload_n hx hb d_Mo_take_29 rfl (lv_at hl 2 rfl) ?_
      refine lv_iconst (v := nI 3) hx hb d_Mo_take_30 (by decide) ?_
      refine lv_iand hx hb d_Mo_take_31 ?_
      refine kq_ri (show q &&& (nI 3) = nI (kx3 q) from kx_and3 q) ?_
      refine kq_aald hx hb (hay) rfl (kx3_lt q) (by decide) (rfl) d_Mo_take_32 ?_
      refine lv_goto hx hb d_Mo_take_33 rfl ?_
      refine kq_call (va_runS (As := [.ref (mo + 2 + kx3 r), .ref (mo + 12 + kx3 q)]) (rest := []) ⟨hx, hb, hml, hown, hts⟩ (c_Mo_copy l H (ks_c E) (mo + 2 + kx3 r) (mo + 12 + kx3 q) _ (v (mo + 12 + kx3 q)) (ks_row hW hro)) (va_cwS 2 hts (kt_inS kt_w461 kt_w459 kt_w460 kt_w5) rfl rfl rfl (by decide +kernel) ⟨Nat.le_of_ble_eq_true rfl, Nat.le_of_ble_eq_true rfl⟩) (kq_preS (kq_st_A.both kq_st_r) (⟨hT, hs⟩)) rfl rfl hl.1 rfl (lv_room (Nat.le_of_ble_eq_true rfl)) d_Mo_take_44 ⟨Nat.zero_le _, Nat.zero_le _⟩) (fun v9 H9 L1 hq9 hL1 => ?_)
      obtain ⟨rfl, rfl⟩ := hq9
      refine W.eq (g2 := F0 m 47 ls []) rfl ?_
      refine lv_iconst (v := nI 1) hx hb d_Mo_take_47 (by decide) ?_
      exact W.zret hx hb hret rfl (fun t ht _ => ⟨_, rfl, by rw [hbq]; rfl, by rw [ht, hbq, if_neg (by decide), if_pos rfl]; exact ks_put hE hW hro hl8⟩) (t_lL (free := fun x => x = mo + 2 + kx3 r) (fun q h => by cases h) hL1) d_Mo_take_48
  · have hbq := kq_z_b1 hz
    refine lv_iconst (v := nI 0) hx hb d_Mo_take_11 (by decide) ?_
    exact W.zret hx hb hret rfl (fun t ht _ => ⟨_, rfl, by rw [hbq]; rfl, by rw [ht, hbq, if_pos rfl]; exact ks_same (fun x => by by_cases e : x = mo + 2 + kx3 r; rw [e, kq_up_at]; rw [kq_up_ne e]) hW⟩) (fun q h => by cases h) d_Mo_take_12
