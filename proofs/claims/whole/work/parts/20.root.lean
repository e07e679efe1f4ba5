/-! A field that is written; Curve.evenRoot, Spot.become (own rows). -/
section KPUT
variable {p : Program} {l : Launch} {e : Env} {R : Room} {s : State} {m : MethodId} {args : Array Value} {below : List Frame} {meth : Method} {c : Code} {H : Heap} {locs : List Loc} {cells slots : Nat} {Q : State → Prop}
variable {cc : ByteArray} {pc : Nat} {ls : Array Slot} {rest : List Value}
theorem kq_put {y : Cond} {own C : String} {T : u_T} {N ci index : Nat} {D : va_G} {tys : List (ClassId × FieldType)} {a : Nat} {fs : List Value} {v : Value} {ty : FieldType} (hexec : p.tables.exec = Jvm.exec) (hb : c.code = cc) (hts : ∀ w ∈ y :: kt_all, w.before args s = true) (hin : ∀ w ∈ u_ws C T N, w ∈ kt_all) (ty0 : Nat → FieldType) (hty : ∀ k, k < N → parseFieldDescriptor (T k).2.2.1 = some (ty0 k)) (hnm : ∀ a, a < N → ∀ b, b < N → a ≠ b → (T a).2.1 ≠ (T b).2.1) (hown : s.vm.findClass own = some m.cls) (hK : va_K D kr_cl tys s) (hP : va_P D kr_cl [(a, .inr (ci, fs))] H) (hc : kr_cl[ci]? = some (C, T, N)) (k : Nat) (hk : k < N) (hlink : Cond.fieldLink own index (T k).1 (T k).2.1 (T k).2.2.1 ∈ kt_all) (hfin : (T k).2.2.2 = false) (hd : parseFieldDescriptor (T k).2.2.1 = some ty) (hn : narrow ty v = v) (hfit : fits ty v = true) (hl : k < fs.length) (hdg : decode cc pc = .ok (.putfield index, 3))
    (kk : ∀ (H1 : Heap) (L : List Loc), va_P D kr_cl [(a, .inr (ci, fs.set k v))] H1 → H1.size = H.size → (∀ q : Nat, q ≠ a → H1[q]? = H[q]?) → (∀ q ∈ L, q.base = a) → W p l e R s m args below meth c H1 (locs ++ L) cells slots Q (F0 m (pc + 3) ls rest)) : W p l e R s m args below meth c H locs cells slots Q (F0 m pc ls (v :: .ref a :: rest)) := by
  have hin2 : ∀ w ∈ u_ws C T N, w ∈ y :: kt_all := fun w hw => List.mem_cons_of_mem _ (hin w hw)
  have hap := va_apart (own := own) hts hin2 ty0 hty hnm hK hc
  obtain ⟨r, h1, cell, q1, q2, q3, q4⟩ := hP 0 _ rfl
  have hr : r = (C, T, N) := Option.some.inj (h1.symm.trans hc)
  subst hr
  obtain ⟨hS, hfc, kC, hkC, hkind⟩ := hK.1 ci _ hc
  obtain ⟨cf, kf, fi, f, hi, hsl⟩ := hS k hk
  have hlay := hts _ (hin2 _ (u_in_lay hk))
  unfold u_lay at hlay
  rw [if_neg (by rw [hfin]; decide)] at hlay
  have hst := (u_facts hfc hkC (u_lays hts hin2 hk) hi).1
  have h6 := u_store hfc hkC hkind hlay hi hd hn hfit
  refine W.putK hexec hb (f := f) ⟨hown, hts _ (List.mem_cons_of_mem _ hlink), ⟨_, _, _, hi⟩, hst⟩ (by rw [q2]; exact h6) q1 q3 (by rw [hsl]; exact k2_hasslot (q4 k hk)) rfl rfl hdg fun H' e1 e2 e3 => ?_
  rw [hsl] at e1
  refine kk H' _ (fun j q hj => ?_) e2 e3 (fun q hq => ?_)
  · have h0 : j < 1 := (List.getElem?_eq_some_iff.mp hj).1
    rw [show j = 0 by omega] at hj
    cases hj
    exact ⟨_, hc, t_OB.to (V := updV (vp_V fs) k v) ⟨_, e1, q2, q3, t_set q4 hap hk v⟩ (fun j _ => vp_updV_set hl v j)⟩
  · rw [List.mem_singleton] at hq
    rw [hq]
end KPUT
/-- the world behind a Spot's change: rows w, the Spot's flag b, all else as it was -/
def kr_Wb (E : kr_E) (sp : Nat) (b : Bool) (w : Nat → Nat) (H1 : Heap) : Prop := ∃ H2 : Heap, kr_W E w H2 ∧ H1.size = H2.size ∧ (∀ q : Nat, q ≠ sp → H1[q]? = H2[q]?) ∧ va_P (kr_D E) kr_cl [(sp, .inr (2, [.ref (sp + 1), .ref (sp + 2), .int (kq_z b)]))] H1
theorem d_Cu_evenRoot_0 : decode b_Cu_evenRoot 0 = .ok (.aload_n 0, 1) := by decide +kernel
theorem d_Cu_evenRoot_1 : decode b_Cu_evenRoot 1 = .ok (.getfield 39, 3) := by decide +kernel
theorem d_Cu_evenRoot_4 : decode b_Cu_evenRoot 4 = .ok (.aload_n 2, 1) := by decide +kernel
theorem d_Cu_evenRoot_5 : decode b_Cu_evenRoot 5 = .ok (.invokestatic 49, 3) := by decide +kernel
theorem d_Cu_evenRoot_8 : decode b_Cu_evenRoot 8 = .ok (.aload_n 0, 1) := by decide +kernel
theorem d_Cu_evenRoot_9 : decode b_Cu_evenRoot 9 = .ok (.getfield 45, 3) := by decide +kernel
theorem d_Cu_evenRoot_12 : decode b_Cu_evenRoot 12 = .ok (.aload_n 0, 1) := by decide +kernel
theorem d_Cu_evenRoot_13 : decode b_Cu_evenRoot 13 = .ok (.getfield 39, 3) := by decide +kernel
theorem d_Cu_evenRoot_16 : decode b_Cu_evenRoot 16 = .ok (.invokevirtual 55, 3) := by decide +kernel
theorem d_Cu_evenRoot_19 : decode b_Cu_evenRoot 19 = .ok (.aload_n 0, 1) := by decide +kernel
theorem d_Cu_evenRoot_20 : decode b_Cu_evenRoot 20 = .ok (.getfield 45, 3) := by decide +kernel
theorem d_Cu_evenRoot_23 : decode b_Cu_evenRoot 23 = .ok (.aload_n 0, 1) := by decide +kernel
theorem d_Cu_evenRoot_24 : decode b_Cu_evenRoot 24 = .ok (.getfield 36, 3) := by decide +kernel
theorem d_Cu_evenRoot_27 : decode b_Cu_evenRoot 27 = .ok (.aload_n 0, 1) := by decide +kernel
theorem d_Cu_evenRoot_28 : decode b_Cu_evenRoot 28 = .ok (.getfield 39, 3) := by decide +kernel
theorem d_Cu_evenRoot_31 : decode b_Cu_evenRoot 31 = .ok (.getstatic 61, 3) := by decide +kernel
theorem d_Cu_evenRoot_34 : decode b_Cu_evenRoot 34 = .ok (.invokevirtual 64, 3) := by decide +kernel
theorem d_Cu_evenRoot_37 : decode b_Cu_evenRoot 37 = .ok (.aload_n 0, 1) := by decide +kernel
theorem d_Cu_evenRoot_38 : decode b_Cu_evenRoot 38 = .ok (.getfield 45, 3) := by decide +kernel
theorem d_Cu_evenRoot_41 : decode b_Cu_evenRoot 41 = .ok (.aload_n 0, 1) := by decide +kernel
theorem d_Cu_evenRoot_42 : decode b_Cu_evenRoot 42 = .ok (.getfield 42, 3) := by decide +kernel
theorem d_Cu_evenRoot_45 : decode b_Cu_evenRoot 45 = .ok (.aload_n 0, 1) := by decide +kernel
theorem d_Cu_evenRoot_46 : decode b_Cu_evenRoot 46 = .ok (.getfield 36, 3) := by decide +kernel
theorem d_Cu_evenRoot_49 : decode b_Cu_evenRoot 49 = .ok (.aload_n 0, 1) := by decide +kernel
theorem d_Cu_evenRoot_50 : decode b_Cu_evenRoot 50 = .ok (.getfield 36, 3) := by decide +kernel
theorem d_Cu_evenRoot_53 : decode b_Cu_evenRoot 53 = .ok (.invokevirtual 68, 3) := by decide +kernel
theorem d_Cu_evenRoot_56 : decode b_Cu_evenRoot 56 = .ok (.aload_n 0, 1) := by decide +kernel
theorem d_Cu_evenRoot_57 : decode b_Cu_evenRoot 57 = .ok (.getfield 42, 3) := by decide +kernel
theorem d_Cu_evenRoot_60 : decode b_Cu_evenRoot 60 = .ok (.aload_n 0, 1) := by decide +kernel
theorem d_Cu_evenRoot_61 : decode b_Cu_evenRoot 61 = .ok (.getfield 39, 3) := by decide +kernel
theorem d_Cu_evenRoot_64 : decode b_Cu_evenRoot 64 = .ok (.invokestatic 71, 3) := by decide +kernel
theorem d_Cu_evenRoot_67 : decode b_Cu_evenRoot 67 = .ok (.ifCond .ne 5, 3) := by decide +kernel
theorem d_Cu_evenRoot_70 : decode b_Cu_evenRoot 70 = .ok (.iconst 0, 1) := by decide +kernel
theorem d_Cu_evenRoot_71 : decode b_Cu_evenRoot 71 = .ok (.ireturn, 1) := by decide +kernel
theorem d_Cu_evenRoot_72 : decode b_Cu_evenRoot 72 = .ok (.aload_n 0, 1) := by decide +kernel
theorem d_Cu_evenRoot_73 : decode b_Cu_evenRoot 73 = .ok (.getfield 36, 3) := by decide +kernel
theorem d_Cu_evenRoot_76 : decode b_Cu_evenRoot 76 = .ok (.invokestatic 75, 3) := by decide +kernel
theorem d_Cu_evenRoot_79 : decode b_Cu_evenRoot 79 = .ok (.ifCond .eq 21, 3) := by decide +kernel
theorem d_Cu_evenRoot_82 : decode b_Cu_evenRoot 82 = .ok (.aload_n 0, 1) := by decide +kernel
theorem d_Cu_evenRoot_83 : decode b_Cu_evenRoot 83 = .ok (.getfield 45, 3) := by decide +kernel
theorem d_Cu_evenRoot_86 : decode b_Cu_evenRoot 86 = .ok (.aload_n 0, 1) := by decide +kernel
theorem d_Cu_evenRoot_87 : decode b_Cu_evenRoot 87 = .ok (.getfield 36, 3) := by decide +kernel
theorem d_Cu_evenRoot_90 : decode b_Cu_evenRoot 90 = .ok (.getstatic 79, 3) := by decide +kernel
theorem d_Cu_evenRoot_93 : decode b_Cu_evenRoot 93 = .ok (.aload_n 0, 1) := by decide +kernel
theorem d_Cu_evenRoot_94 : decode b_Cu_evenRoot 94 = .ok (.getfield 36, 3) := by decide +kernel
theorem d_Cu_evenRoot_97 : decode b_Cu_evenRoot 97 = .ok (.invokevirtual 82, 3) := by decide +kernel
theorem d_Cu_evenRoot_100 : decode b_Cu_evenRoot 100 = .ok (.aload_n 1, 1) := by decide +kernel
theorem d_Cu_evenRoot_101 : decode b_Cu_evenRoot 101 = .ok (.aload_n 0, 1) := by decide +kernel
theorem d_Cu_evenRoot_102 : decode b_Cu_evenRoot 102 = .ok (.getfield 36, 3) := by decide +kernel
theorem d_Cu_evenRoot_105 : decode b_Cu_evenRoot 105 = .ok (.invokestatic 49, 3) := by decide +kernel
theorem d_Cu_evenRoot_108 : decode b_Cu_evenRoot 108 = .ok (.iconst 1, 1) := by decide +kernel
theorem d_Cu_evenRoot_109 : decode b_Cu_evenRoot 109 = .ok (.ireturn, 1) := by decide +kernel
set_option maxHeartbeats 4000000 in
set_option maxRecDepth 100000 in
theorem c_Cu_evenRoot (l : Launch) (E : kr_E) (A : Nat → Nat) (h pa ga gw G hc : Nat) (v : Nat → Nat) (H : Heap) (hE : kr_ok E) (hA : kr_A E A) (hP : kr_P E h pa ga gw kP G) (hV : kr_V E hc h) (hW : kr_W E v H) (r a : Nat) (hr : kr_out E r) (ha : kr_out E a) (hr0 : r < h ∨ r = hc + 5) (ha0 : a < h ∨ a = hc + 7) : Met l y_Cu_evenRoot w_Cu_evenRoot ({ frames := 4, cells := 0, slots := 0, locals := 99 }) (kq_P [.ref hc, .ref r, .ref a] H (kr_C E A)) (kq_Q (fun o1 H1 => o1 = some (.int (kq_z (decide (kc_root (v a) * kc_root (v a) % kP = v a % kP)))) ∧ ∃ w : Nat → Nat, kr_W E w H1 ∧ w r = (if kc_root (v a) * kc_root (v a) % kP = v a % kP then kc_even (kc_root (v a)) else v r) ∧ ∀ q, q ≠ r → ¬ kr_fr h hc q → w q = v q)) 0 0 (fun q => q = r ∨ kr_fr h hc q) := by
  refine Met.ofW (cc := b_Cu_evenRoot) (maxL := 3) (ret := (some .boolean)) (by decide) rfl ?_
  intro p e s m args below meth c s₁ B0 hml hv
  obtain ⟨rfl, hH, hC⟩ := hv
  have hx := B0.exec
  have hb := B0.bytes
  have hret := B0.returns
  have hts := atoms_spec (ws := w_Cu_evenRoot) B0.pre
  have hown : s.vm.findClass R_Cu = some m.cls := findClass_of_methodNamed B0.named
  have hlocks := B0.notSynchronized
  rw [hH]
  have hl := lv_entry ([.ref hc, .ref r, .ref a]) (n := 3) (Nat.le_of_ble_eq_true rfl)
  rw [lg_entry_eq]
  generalize (lg_sl ([.ref hc, .ref r, .ref a]) ++ List.replicate (3 - (lg_sl ([.ref hc, .ref r, .ref a])).length) Slot.unset).toArray = ls at hl ⊢
  have hl : lv_has ls 3 [(0, .ref hc), (1, .ref r), (2, .ref a)] := hl
  have hB := hC.1
  have hT := kr_T hE hB
  have hK := hB.1
  have hhc := hV.2.2.2
  have h9 := hV.2.2.1 9 (by decide) (by decide)
  have h10 := hV.2.2.1 10 (by decide) (by decide)
  have h11 := hV.2.2.1 11 (by decide) (by decide)
  have hlc0 : ∀ q ∈ ([] : List Loc), q.base = r ∨ kr_fr h hc q.base := fun q h => by cases h
  have hO := kr_obj hW hV.1 hV.2.1
  have hsa := kr_src hE hW hB (Or.inl ha)
  have hla := kr_lt hE hW (Or.inl ha)
  refine lv_aload_n hx hb d_Cu_evenRoot_0 rfl (lv_at hl 0 rfl) ?_
  refine kq_get hx hb hts kt_F_Cu hown hK hO rfl 10 (by decide) kt_w109 rfl d_Cu_evenRoot_1 ?_
  refine lv_aload_n hx hb d_Cu_evenRoot_4 rfl (lv_at hl 2 rfl) ?_
  refine kq_call (va_runS (As := [.ref (hc + 10), .ref a]) (rest := []) ⟨hx, hb, hml, hown, hts⟩ (c_Wo_copy l (kr_c E) H (hc + 10) a (v (hc + 10)) (v a) (kr_row hW h10)) (va_cwS 2 hts (kt_inS kt_w222 kt_w255 kt_w221 kt_w6) rfl rfl rfl (by decide +kernel) ⟨Nat.le_of_ble_eq_true rfl, Nat.le_of_ble_eq_true rfl⟩) (kq_preS (kq_st_A.both kq_st_r) (⟨hT, hsa⟩)) rfl rfl hl.1 rfl (lv_room (Nat.le_of_ble_eq_true rfl)) d_Cu_evenRoot_5 ⟨Nat.zero_le _, Nat.zero_le _⟩) (fun u1 H1 L1 hq1 hL1 => ?_)
  obtain ⟨rfl, rfl⟩ := hq1
  refine W.eq (g2 := F0 m 8 ls []) rfl ?_
  have hlc1 := t_lL (free := (fun q => q = r ∨ kr_fr h hc q)) hlc0 (fun q z => Or.inr (by rw [hL1 q z]; unfold kr_fr; omega))
  obtain ⟨w1, f1, o1, hW1⟩ : ∃ w : Nat → Nat, w (hc + 10) = v a ∧ (∀ q, q ≠ hc + 10 → w q = v q) ∧ kr_W E w (kq_set H (hc + 10) (kq_L (kr_c E) 8 (v a))) := ⟨_, kq_up_at, fun q hq => kq_up_ne hq, kr_put hE hW h10 hla⟩
  have hO1 := kr_obj hW1 hV.1 hV.2.1
  have hOp1 := kr_obj hW1 hP.1 hP.2.1
  refine lv_aload_n hx hb d_Cu_evenRoot_8 rfl (lv_at hl 0 rfl) ?_
  refine kq_get hx hb hts kt_F_Cu hown hK hO1 rfl 0 (by decide) kt_w99 rfl d_Cu_evenRoot_9 ?_
  refine lv_aload_n hx hb d_Cu_evenRoot_12 rfl (lv_at hl 0 rfl) ?_
  refine kq_get hx hb hts kt_F_Cu hown hK hO1 rfl 10 (by decide) kt_w109 rfl d_Cu_evenRoot_13 ?_
  refine kq_call (va_runV (As := [.ref (hc + 10)]) (rest := []) ⟨hx, hb, hml, hown, hts⟩ (c_Pr_trim l E h pa ga gw kP G w1 _ hE hP hW1 (hc + 10) h10) (cwV 1 hts (kt_inV kt_w184 kt_w256 kt_w182 kt_w183 kt_w3) rfl rfl rfl (by decide +kernel) ⟨Nat.le_of_ble_eq_true rfl, Nat.le_of_ble_eq_true rfl⟩) (kq_preV (kr_st E) (hB) (kq_recv hB.1 hOp1 rfl)) rfl rfl hl.1 rfl (lv_room (Nat.le_of_ble_eq_true rfl)) d_Cu_evenRoot_16 ⟨Nat.zero_le _, Nat.zero_le _⟩) (fun u2 H2 L2 hq2 hL2 => ?_)
  obtain ⟨rfl, hX2⟩ := hq2
  refine W.eq (g2 := F0 m 19 ls []) rfl ?_
  have hlc2 := t_lL (free := (fun q => q = r ∨ kr_fr h hc q)) hlc1 (fun q z => Or.inr (by rw [hL2 q z]; unfold kr_fr; omega))
  obtain ⟨w2, f2, o2, hW2⟩ : ∃ w : Nat → Nat, w (hc + 10) = w1 (hc + 10) % kP ∧ (∀ q, q ≠ hc + 10 → w q = w1 q) ∧ kr_W E w H2 := ⟨_, kq_up_at, fun q hq => kq_up_ne hq, hX2⟩
  rw [f1] at f2
  have hO2 := kr_obj hW2 hV.1 hV.2.1
  have hOp2 := kr_obj hW2 hP.1 hP.2.1
  refine lv_aload_n hx hb d_Cu_evenRoot_19 rfl (lv_at hl 0 rfl) ?_
  refine kq_get hx hb hts kt_F_Cu hown hK hO2 rfl 0 (by decide) kt_w99 rfl d_Cu_evenRoot_20 ?_
  refine lv_aload_n hx hb d_Cu_evenRoot_23 rfl (lv_at hl 0 rfl) ?_
  refine kq_get hx hb hts kt_F_Cu hown hK hO2 rfl 9 (by decide) kt_w108 rfl d_Cu_evenRoot_24 ?_
  refine lv_aload_n hx hb d_Cu_evenRoot_27 rfl (lv_at hl 0 rfl) ?_
  refine kq_get hx hb hts kt_F_Cu hown hK hO2 rfl 10 (by decide) kt_w109 rfl d_Cu_evenRoot_28 ?_
  refine kq_getsN hx hb (kr_zat hW2 hC.2.2.2.2.2.1) hown hC.2.1.2.1 d_Cu_evenRoot_31 ?_
  refine kq_call (va_runV (As := [.ref (hc + 9), .ref (hc + 10), .ref (A 3)]) (rest := []) ⟨hx, hb, hml, hown, hts⟩ (c_Pr_power l E A h pa ga gw kP G w2 H2 hE hA hP hW2 (hc + 9) (hc + 10) (A 3) h9 (Or.inl h10) hA.2.2.2.1.1) (cwV 3 hts (kt_inV kt_w240 kt_w259 kt_w238 kt_w239 kt_w3) rfl rfl rfl (by decide +kernel) ⟨Nat.le_of_ble_eq_true rfl, Nat.le_of_ble_eq_true rfl⟩) (kq_p2V (kr_C_s2 E A) (hC) (kq_recv hB.1 hOp2 rfl)) rfl rfl hl.1 rfl (lv_room (Nat.le_of_ble_eq_true rfl)) d_Cu_evenRoot_34 ⟨Nat.zero_le _, Nat.zero_le _⟩) (fun u3 H3 L3 hq3 hL3 => ?_)
  obtain ⟨rfl, w3, hW3, f3, o3⟩ := hq3
  refine W.eq (g2 := F0 m 37 ls []) rfl ?_
  have hlc3 := t_lL (free := (fun q => q = r ∨ kr_fr h hc q)) hlc2 (fun q z => Or.inr (by rcases hL3 q z with z | z | z | z | z <;> (rw [z]; unfold kr_fr; omega)))
  have e3 : w3 (hc + 9) = kc_root (v a) := by
    rw [f3, f2, kr_cst hW2 hA.2.2.2.1]
    rfl
  have g3 : w3 (hc + 10) = v a % kP := by rw [o3 _ (by omega) (by omega) (by omega) (by omega) (by omega), f2]
  have hO3 := kr_obj hW3 hV.1 hV.2.1
  have hOp3 := kr_obj hW3 hP.1 hP.2.1
  refine lv_aload_n hx hb d_Cu_evenRoot_37 rfl (lv_at hl 0 rfl) ?_
  refine kq_get hx hb hts kt_F_Cu hown hK hO3 rfl 0 (by decide) kt_w99 rfl d_Cu_evenRoot_38 ?_
  refine lv_aload_n hx hb d_Cu_evenRoot_41 rfl (lv_at hl 0 rfl) ?_
  refine kq_get hx hb hts kt_F_Cu hown hK hO3 rfl 11 (by decide) kt_w110 rfl d_Cu_evenRoot_42 ?_
  refine lv_aload_n hx hb d_Cu_evenRoot_45 rfl (lv_at hl 0 rfl) ?_
  refine kq_get hx hb hts kt_F_Cu hown hK hO3 rfl 9 (by decide) kt_w108 rfl d_Cu_evenRoot_46 ?_
  refine lv_aload_n hx hb d_Cu_evenRoot_49 rfl (lv_at hl 0 rfl) ?_
  refine kq_get hx hb hts kt_F_Cu hown hK hO3 rfl 9 (by decide) kt_w108 rfl d_Cu_evenRoot_50 ?_
  refine kq_call (va_runV (As := [.ref (hc + 11), .ref (hc + 9), .ref (hc + 9)]) (rest := []) ⟨hx, hb, hml, hown, hts⟩ (c_Pr_product l E h pa ga gw kP G w3 H3 hE hP hW3 (hc + 11) (hc + 9) (hc + 9) h11 (Or.inl h9) (Or.inl h9)) (cwV 3 hts (kt_inV kt_w206 kt_w260 kt_w204 kt_w205 kt_w3) rfl rfl rfl (by decide +kernel) ⟨Nat.le_of_ble_eq_true rfl, Nat.le_of_ble_eq_true rfl⟩) (kq_preV (kr_st E) (hB) (kq_recv hB.1 hOp3 rfl)) rfl rfl hl.1 rfl (lv_room (Nat.le_of_ble_eq_true rfl)) d_Cu_evenRoot_53 ⟨Nat.zero_le _, Nat.zero_le _⟩) (fun u4 H4 L4 hq4 hL4 => ?_)
  obtain ⟨rfl, w4, hW4, f4, o4⟩ := hq4
  refine W.eq (g2 := F0 m 56 ls []) rfl ?_
  have hlc4 := t_lL (free := (fun q => q = r ∨ kr_fr h hc q)) hlc3 (fun q z => Or.inr (by rcases hL4 q z with z | z | z <;> (rw [z]; unfold kr_fr; omega)))
  rw [e3] at f4
  have e4 : w4 (hc + 9) = kc_root (v a) := by rw [o4 _ (by omega) (by omega) (by omega), e3]
  have g4 : w4 (hc + 10) = v a % kP := by rw [o4 _ (by omega) (by omega) (by omega), g3]
  have ho4 : ∀ q, ¬ kr_fr h hc q → w4 q = v q := fun q hq => by
    have hq1 := hq
    unfold kr_fr at hq1
    rw [o4 q (by omega) (by omega) (by omega), o3 q (by omega) (by omega) (by omega) (by omega) (by omega), o2 q (by omega), o1 q (by omega)]
  have hr4 : w4 r = v r := by
    rcases hr0 with z | z
    · exact ho4 r (by unfold kr_fr; omega)
    · rw [o4 r (by omega) (by omega) (by omega), o3 r (by omega) (by omega) (by omega) (by omega) (by omega), o2 r (by omega), o1 r (by omega)]
  have hO4 := kr_obj hW4 hV.1 hV.2.1
  have hs11 := kr_src hE hW4 hB (Or.inl h11)
  have hl11 := kr_lt hE hW4 (Or.inl h11)
  have hs10 := kr_src hE hW4 hB (Or.inl h10)
  have hl10 := kr_lt hE hW4 (Or.inl h10)
  have hs9 := kr_src hE hW4 hB (Or.inl h9)
  have hl9 := kr_lt hE hW4 (Or.inl h9)
  rw [f4] at hs11 hl11
  rw [g4] at hs10 hl10
  rw [e4] at hs9 hl9
  refine lv_aload_n hx hb d_Cu_evenRoot_56 rfl (lv_at hl 0 rfl) ?_
  refine kq_get hx hb hts kt_F_Cu hown hK hO4 rfl 11 (by decide) kt_w110 rfl d_Cu_evenRoot_57 ?_
  refine lv_aload_n hx hb d_Cu_evenRoot_60 rfl (lv_at hl 0 rfl) ?_
  refine kq_get hx hb hts kt_F_Cu hown hK hO4 rfl 10 (by decide) kt_w109 rfl d_Cu_evenRoot_61 ?_
  refine kq_call (va_runS (As := [.ref (hc + 11), .ref (hc + 10)]) (rest := []) ⟨hx, hb, hml, hown, hts⟩ (c_Wo_areEqual l H4 (hc + 11) (hc + 10) (kc_root (v a) * kc_root (v a) % kP) (v a % kP) hl11 hl10) (va_cwS 2 hts (kt_inS kt_w263 kt_w261 kt_w262 kt_w6) rfl rfl rfl (by decide +kernel) ⟨Nat.le_of_ble_eq_true rfl, Nat.le_of_ble_eq_true rfl⟩) (kq_preS (kq_st_r.both kq_st_r) (⟨hs11, hs10⟩)) rfl rfl hl.1 rfl (lv_room (Nat.le_of_ble_eq_true rfl)) d_Cu_evenRoot_64 ⟨Nat.zero_le _, Nat.zero_le _⟩) (fun u5 H5 L5 hq5 hL5 => ?_)
  obtain ⟨rfl, e9⟩ := hq5
  rw [e9]
  clear e9
  refine W.eq (g2 := F0 m 67 ls [.int (kq_z (decide (kc_root (v a) * kc_root (v a) % kP = v a % kP)))]) rfl ?_
  have hlc5 := t_lL (free := (fun q => q = r ∨ kr_fr h hc q)) hlc4 (fun q z => (hL5 q z).elim)
  refine lv_if_ne hx hb d_Cu_evenRoot_67 rfl (fun hc0 => ?_) (fun hc0 => ?_)
  · have hrt : kc_root (v a) * kc_root (v a) % kP = v a % kP := kq_z_ne.mp hc0
    refine lv_aload_n hx hb d_Cu_evenRoot_72 rfl (lv_at hl 0 rfl) ?_
    refine kq_get hx hb hts kt_F_Cu hown hK hO4 rfl 9 (by decide) kt_w108 rfl d_Cu_evenRoot_73 ?_
    refine kq_call (va_runS (As := [.ref (hc + 9)]) (rest := []) ⟨hx, hb, hml, hown, hts⟩ (c_Wo_isOdd l H4 (hc + 9) (kc_root (v a))) (va_cwS 1 hts (kt_inS kt_w266 kt_w264 kt_w265 kt_w6) rfl rfl rfl (by decide +kernel) ⟨Nat.le_of_ble_eq_true rfl, Nat.le_of_ble_eq_true rfl⟩) (kq_preS (kq_st_r) (hs9)) rfl rfl hl.1 rfl (lv_room (Nat.le_of_ble_eq_true rfl)) d_Cu_evenRoot_76 ⟨Nat.zero_le _, Nat.zero_le _⟩) (fun u6 H6 L6 hq6 hL6 => ?_)
    obtain ⟨rfl, e9⟩ := hq6
    rw [e9]
    clear e9
    refine W.eq (g2 := F0 m 79 ls [.int (kq_z (decide (kc_root (v a) % 2 = 1)))]) rfl ?_
    have hlc6 := t_lL (free := (fun q => q = r ∨ kr_fr h hc q)) hlc5 (fun q z => (hL6 q z).elim)
    refine lv_if_eq hx hb d_Cu_evenRoot_79 rfl (fun hc1 => ?_) (fun hc1 => ?_)
    · have hev : ¬ kc_root (v a) % 2 = 1 := kq_z_eq.mp hc1
      have e7 : w4 (hc + 9) = kc_even (kc_root (v a)) := by
        rw [e4]
        unfold kc_even
        rw [if_neg hev]
      have hOz := kr_obj hW4 hV.1 hV.2.1
      have hsz := kr_src hE hW4 hB (Or.inl h9)
      have hlz := kr_lt hE hW4 (Or.inl h9)
      rw [e7] at hsz hlz
      refine lv_aload_n hx hb d_Cu_evenRoot_100 rfl (lv_at hl 1 rfl) ?_
      refine lv_aload_n hx hb d_Cu_evenRoot_101 rfl (lv_at hl 0 rfl) ?_
      refine kq_get hx hb hts kt_F_Cu hown hK hOz rfl 9 (by decide) kt_w108 rfl d_Cu_evenRoot_102 ?_
      refine kq_call (va_runS (As := [.ref r, .ref (hc + 9)]) (rest := []) ⟨hx, hb, hml, hown, hts⟩ (c_Wo_copy l (kr_c E) H4 r (hc + 9) (w4 r) (kc_even (kc_root (v a))) (kr_row hW4 hr)) (va_cwS 2 hts (kt_inS kt_w222 kt_w255 kt_w221 kt_w6) rfl rfl rfl (by decide +kernel) ⟨Nat.le_of_ble_eq_true rfl, Nat.le_of_ble_eq_true rfl⟩) (kq_preS (kq_st_A.both kq_st_r) (⟨hT, hsz⟩)) rfl rfl hl.1 rfl (lv_room (Nat.le_of_ble_eq_true rfl)) d_Cu_evenRoot_105 ⟨Nat.zero_le _, Nat.zero_le _⟩) (fun u8 H8 L8 hq8 hL8 => ?_)
      obtain ⟨rfl, rfl⟩ := hq8
      refine W.eq (g2 := F0 m 108 ls []) rfl ?_
      have hWz := kr_put hE hW4 hr hlz
      refine lv_iconst (v := nI 1) hx hb d_Cu_evenRoot_108 (by decide) ?_
      refine W.zret hx hb hret rfl (fun t ht _ => ⟨_, rfl, by rw [kq_z_t hrt], _, by rw [ht]; exact hWz, ?_, fun q q1 q2 => ?_⟩) (t_lL (free := (fun q => q = r ∨ kr_fr h hc q)) hlc6 (fun q z => Or.inl (hL8 q z))) d_Cu_evenRoot_109
      · rw [kq_up_at, if_pos hrt]
      · rw [kq_up_ne q1]
        exact ho4 q q2
    · have hod : kc_root (v a) % 2 = 1 := kq_z_ne.mp hc1
      have hOp4 := kr_obj hW4 hP.1 hP.2.1
      refine lv_aload_n hx hb d_Cu_evenRoot_82 rfl (lv_at hl 0 rfl) ?_
      refine kq_get hx hb hts kt_F_Cu hown hK hO4 rfl 0 (by decide) kt_w99 rfl d_Cu_evenRoot_83 ?_
      refine lv_aload_n hx hb d_Cu_evenRoot_86 rfl (lv_at hl 0 rfl) ?_
      refine kq_get hx hb hts kt_F_Cu hown hK hO4 rfl 9 (by decide) kt_w108 rfl d_Cu_evenRoot_87 ?_
      refine kq_getsN hx hb (kr_zat hW4 hC.2.2.1) hown hC.2.1.2.2.1 d_Cu_evenRoot_90 ?_
      refine lv_aload_n hx hb d_Cu_evenRoot_93 rfl (lv_at hl 0 rfl) ?_
      refine kq_get hx hb hts kt_F_Cu hown hK hO4 rfl 9 (by decide) kt_w108 rfl d_Cu_evenRoot_94 ?_
      refine kq_call (va_runV (As := [.ref (hc + 9), .ref (A 0), .ref (hc + 9)]) (rest := []) ⟨hx, hb, hml, hown, hts⟩ (c_Pr_difference l E h pa ga gw kP G w4 H4 hE hP hW4 (hc + 9) (A 0) (hc + 9) h9 (Or.inr hA.1.1) (Or.inl h9)) (cwV 3 hts (kt_inV kt_w198 kt_w268 kt_w196 kt_w197 kt_w3) rfl rfl rfl (by decide +kernel) ⟨Nat.le_of_ble_eq_true rfl, Nat.le_of_ble_eq_true rfl⟩) (kq_preV (kr_st E) (hB) (kq_recv hB.1 hOp4 rfl)) rfl rfl hl.1 rfl (lv_room (Nat.le_of_ble_eq_true rfl)) d_Cu_evenRoot_97 ⟨Nat.zero_le _, Nat.zero_le _⟩) (fun u7 H7 L7 hq7 hL7 => ?_)
      obtain ⟨rfl, hX7⟩ := hq7
      refine W.eq (g2 := F0 m 100 ls []) rfl ?_
      have hlc7 := t_lL (free := (fun q => q = r ∨ kr_fr h hc q)) hlc6 (fun q z => Or.inr (by rw [hL7 q z]; unfold kr_fr; omega))
      obtain ⟨w7, f7, o7, hW7⟩ : ∃ w : Nat → Nat, w (hc + 9) = kp_dif kP (w4 (A 0)) (w4 (hc + 9)) ∧ (∀ q, q ≠ hc + 9 → w q = w4 q) ∧ kr_W E w H7 := ⟨_, kq_up_at, fun q hq => kq_up_ne hq, hX7⟩
      have e7 : w7 (hc + 9) = kc_even (kc_root (v a)) := by
        rw [f7, e4, kr_cst hW4 hA.1]
        unfold kc_even
        rw [if_pos hod]
      have hOz := kr_obj hW7 hV.1 hV.2.1
      have hsz := kr_src hE hW7 hB (Or.inl h9)
      have hlz := kr_lt hE hW7 (Or.inl h9)
      rw [e7] at hsz hlz
      refine lv_aload_n hx hb d_Cu_evenRoot_100 rfl (lv_at hl 1 rfl) ?_
      refine lv_aload_n hx hb d_Cu_evenRoot_101 rfl (lv_at hl 0 rfl) ?_
      refine kq_get hx hb hts kt_F_Cu hown hK hOz rfl 9 (by decide) kt_w108 rfl d_Cu_evenRoot_102 ?_
      refine kq_call (va_runS (As := [.ref r, .ref (hc + 9)]) (rest := []) ⟨hx, hb, hml, hown, hts⟩ (c_Wo_copy l (kr_c E) H7 r (hc + 9) (w7 r) (kc_even (kc_root (v a))) (kr_row hW7 hr)) (va_cwS 2 hts (kt_inS kt_w222 kt_w255 kt_w221 kt_w6) rfl rfl rfl (by decide +kernel) ⟨Nat.le_of_ble_eq_true rfl, Nat.le_of_ble_eq_true rfl⟩) (kq_preS (kq_st_A.both kq_st_r) (⟨hT, hsz⟩)) rfl rfl hl.1 rfl (lv_room (Nat.le_of_ble_eq_true rfl)) d_Cu_evenRoot_105 ⟨Nat.zero_le _, Nat.zero_le _⟩) (fun u8 H8 L8 hq8 hL8 => ?_)
      obtain ⟨rfl, rfl⟩ := hq8
      refine W.eq (g2 := F0 m 108 ls []) rfl ?_
      have hWz := kr_put hE hW7 hr hlz
      refine lv_iconst (v := nI 1) hx hb d_Cu_evenRoot_108 (by decide) ?_
      refine W.zret hx hb hret rfl (fun t ht _ => ⟨_, rfl, by rw [kq_z_t hrt], _, by rw [ht]; exact hWz, ?_, fun q q1 q2 => ?_⟩) (t_lL (free := (fun q => q = r ∨ kr_fr h hc q)) hlc7 (fun q z => Or.inl (hL8 q z))) d_Cu_evenRoot_109
      · rw [kq_up_at, if_pos hrt]
      · rw [kq_up_ne q1]
        have q3 := q2
        unfold kr_fr at q3
        rw [o7 q (by omega)]
        exact ho4 q q2
  · have hrt : ¬ kc_root (v a) * kc_root (v a) % kP = v a % kP := kq_z_eq.mp hc0
    refine lv_iconst (v := nI 0) hx hb d_Cu_evenRoot_70 (by decide) ?_
    refine W.zret hx hb hret rfl (fun t ht _ => ⟨_, rfl, by rw [kq_z_f hrt], w4, by rw [ht]; exact hW4, ?_, fun q _ q2 => ho4 q q2⟩) hlc5 d_Cu_evenRoot_71
    rw [if_neg hrt]
    exact hr4
theorem d_Sp_become_0 : decode b_Sp_become 0 = .ok (.aload_n 0, 1) := by decide +kernel
theorem d_Sp_become_1 : decode b_Sp_become 1 = .ok (.getfield 9, 3) := by decide +kernel
theorem d_Sp_become_4 : decode b_Sp_become 4 = .ok (.aload_n 1, 1) := by decide +kernel
theorem d_Sp_become_5 : decode b_Sp_become 5 = .ok (.invokestatic 22, 3) := by decide +kernel
theorem d_Sp_become_8 : decode b_Sp_become 8 = .ok (.aload_n 0, 1) := by decide +kernel
theorem d_Sp_become_9 : decode b_Sp_become 9 = .ok (.getfield 15, 3) := by decide +kernel
theorem d_Sp_become_12 : decode b_Sp_become 12 = .ok (.aload_n 2, 1) := by decide +kernel
theorem d_Sp_become_13 : decode b_Sp_become 13 = .ok (.invokestatic 22, 3) := by decide +kernel
theorem d_Sp_become_16 : decode b_Sp_become 16 = .ok (.aload_n 0, 1) := by decide +kernel
theorem d_Sp_become_17 : decode b_Sp_become 17 = .ok (.iconst 0, 1) := by decide +kernel
theorem d_Sp_become_18 : decode b_Sp_become 18 = .ok (.putfield 18, 3) := by decide +kernel
theorem d_Sp_become_21 : decode b_Sp_become 21 = .ok (.return_, 1) := by decide +kernel
set_option maxHeartbeats 4000000 in
set_option maxRecDepth 100000 in
theorem c_Sp_become (l : Launch) (E : kr_E) (v : Nat → Nat) (H : Heap) (hE : kr_ok E) (hW : kr_W E v H) (sp : Nat) (b : Bool) (hS : kr_Sp E sp b) (ax ay : Nat) (hax : kr_in E ax) (hay : kr_in E ay) (hne : ay ≠ sp + 1) : Met l y_Sp_become w_Sp_become ({ frames := 2, cells := 0, slots := 0, locals := 41 }) (kq_P [.ref sp, .ref ax, .ref ay] H (kr_B E)) (kq_Q (fun o1 H1 => o1 = none ∧ kr_Wb E sp false (va_up (va_up v (sp + 1) (v ax)) (sp + 2) (v ay)) H1)) 0 0 (fun q => q = sp ∨ q = sp + 1 ∨ q = sp + 2) := by
  refine Met.ofW (cc := b_Sp_become) (maxL := 3) (ret := none) (by decide) rfl ?_
  intro p e s m args below meth c s₁ B0 hml hv
  obtain ⟨rfl, hH, hB⟩ := hv
  have hx := B0.exec
  have hb := B0.bytes
  have hret := B0.returns
  have hts := atoms_spec (ws := w_Sp_become) B0.pre
  have hown : s.vm.findClass R_Sp = some m.cls := findClass_of_methodNamed B0.named
  have hlocks := B0.notSynchronized
  rw [hH]
  have hl := lv_entry ([.ref sp, .ref ax, .ref ay]) (n := 3) (Nat.le_of_ble_eq_true rfl)
  rw [lg_entry_eq]
  generalize (lg_sl ([.ref sp, .ref ax, .ref ay]) ++ List.replicate (3 - (lg_sl ([.ref sp, .ref ax, .ref ay])).length) Slot.unset).toArray = ls at hl ⊢
  have hl : lv_has ls 3 [(0, .ref sp), (1, .ref ax), (2, .ref ay)] := hl
  have hT := kr_T hE hB
  have hK := hB.1
  have hO := kr_obj hW hS.1 hS.2.1
  have hsx := kr_src hE hW hB hax
  have hlx := kr_lt hE hW hax
  refine lv_aload_n hx hb d_Sp_become_0 rfl (lv_at hl 0 rfl) ?_
  refine kq_get hx hb hts kt_F_Sp hown hK hO rfl 0 (by decide) kt_w26 rfl d_Sp_become_1 ?_
  refine lv_aload_n hx hb d_Sp_become_4 rfl (lv_at hl 1 rfl) ?_
  refine kq_call (va_runS (As := [.ref (sp + 1), .ref ax]) (rest := []) ⟨hx, hb, hml, hown, hts⟩ (c_Wo_copy l (kr_c E) H (sp + 1) ax (v (sp + 1)) (v ax) (kr_row hW hS.2.2.1)) (va_cwS 2 hts (kt_inS kt_w222 kt_w285 kt_w221 kt_w6) rfl rfl rfl (by decide +kernel) ⟨Nat.le_of_ble_eq_true rfl, Nat.le_of_ble_eq_true rfl⟩) (kq_preS (kq_st_A.both kq_st_r) (⟨hT, hsx⟩)) rfl rfl hl.1 rfl (lv_room (Nat.le_of_ble_eq_true rfl)) d_Sp_become_5 ⟨Nat.zero_le _, Nat.zero_le _⟩) (fun u1 H1 L1 hq1 hL1 => ?_)
  obtain ⟨rfl, rfl⟩ := hq1
  refine W.eq (g2 := F0 m 8 ls []) rfl ?_
  have hW1 := kr_put hE hW hS.2.2.1 hlx
  have hO1 := kr_obj hW1 hS.1 hS.2.1
  have hsy := kr_src hE hW1 hB hay
  have hly := kr_lt hE hW1 hay
  rw [kq_up_ne hne] at hsy hly
  refine lv_aload_n hx hb d_Sp_become_8 rfl (lv_at hl 0 rfl) ?_
  refine kq_get hx hb hts kt_F_Sp hown hK hO1 rfl 1 (by decide) kt_w29 rfl d_Sp_become_9 ?_
  refine lv_aload_n hx hb d_Sp_become_12 rfl (lv_at hl 2 rfl) ?_
  refine kq_call (va_runS (As := [.ref (sp + 2), .ref ay]) (rest := []) ⟨hx, hb, hml, hown, hts⟩ (c_Wo_copy l (kr_c E) _ (sp + 2) ay _ (v ay) (kr_row hW1 hS.2.2.2)) (va_cwS 2 hts (kt_inS kt_w222 kt_w285 kt_w221 kt_w6) rfl rfl rfl (by decide +kernel) ⟨Nat.le_of_ble_eq_true rfl, Nat.le_of_ble_eq_true rfl⟩) (kq_preS (kq_st_A.both kq_st_r) (⟨hT, hsy⟩)) rfl rfl hl.1 rfl (lv_room (Nat.le_of_ble_eq_true rfl)) d_Sp_become_13 ⟨Nat.zero_le _, Nat.zero_le _⟩) (fun u2 H2 L2 hq2 hL2 => ?_)
  obtain ⟨rfl, rfl⟩ := hq2
  refine W.eq (g2 := F0 m 16 ls []) rfl ?_
  have hW2 := kr_put hE hW1 hS.2.2.2 hly
  have hO2 := kr_obj hW2 hS.1 hS.2.1
  refine lv_aload_n hx hb d_Sp_become_16 rfl (lv_at hl 0 rfl) ?_
  refine lv_iconst (v := nI 0) hx hb d_Sp_become_17 (by decide) ?_
  refine kq_put hx hb hts kt_F_Sp t_Sp t_Sp_ok n_Sp hown hK hO2 rfl 2 (by decide) kt_w32 rfl (ty := .boolean) (by decide +kernel) rfl rfl (Nat.le_of_ble_eq_true rfl) d_Sp_become_18 (fun H3 L3 hP3 hz3 ho3 hL3 => ?_)
  have hP3 : va_P (kr_D E) kr_cl [(sp, .inr (2, [.ref (sp + 1), .ref (sp + 2), .int (kq_z false)]))] H3 := hP3
  exact W.vret hx hb hret (fun t ht _ => ⟨_, rfl, rfl, _, hW2, by rw [ht]; exact hz3, fun q hq => by rw [ht]; exact ho3 q hq, by rw [ht]; exact hP3⟩) (t_lL (free := fun q => q = sp ∨ q = sp + 1 ∨ q = sp + 2) (t_lL (free := fun q => q = sp ∨ q = sp + 1 ∨ q = sp + 2) (fun q z => Or.inr (Or.inl (hL1 q z))) (fun q z => Or.inr (Or.inr (hL2 q z)))) (fun q z => Or.inl (hL3 q z))) d_Sp_become_21
