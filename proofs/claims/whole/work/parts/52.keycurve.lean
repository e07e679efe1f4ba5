/-! The constructor of KeyCurve (own rows). -/
def kn_KB (D : va_G) (tys : List (ClassId × FieldType)) (A : Nat → Nat) (o : Nat) (H : Heap) (U : State) : Prop := kn_PB D tys U ∧ va_AO "KeyCurve$Spot" U ∧ (Cond.arrayOver (.array .long)).before #[] U = true ∧ va_Nw (.methodLinkNest "KeyCurve" 20 ⟨"KeyCurve$Spot", "<init>", "()V"⟩ "KeyCurve") U ∧ va_Z "KeyCurve" "FIELD" "[J" (.ref (A 0)) (fun q => o ≤ q) U H ∧ va_Z "KeyCurve" "FIELD_GAP" "[J" (.ref (A 6)) (fun q => o ≤ q) U H ∧ va_Z "KeyCurve" "ORDER" "[J" (.ref (A 7)) (fun q => o ≤ q) U H ∧ va_Z "KeyCurve" "ORDER_GAP" "[J" (.ref (A 8)) (fun q => o ≤ q) U H
theorem kn_KB_s2 {D : va_G} {tys : List (ClassId × FieldType)} {A : Nat → Nat} {o : Nat} {H : Heap} : kq_s2 (kn_KB D tys A o H) := fun u U hv q => ⟨kn_PB_s2 u U hv q.1, va_AO.moved (kq_al hv) q.2.1, over_moved (kq_al hv) q.2.2.1, hv.elim (fun e => va_Nw.same rfl e q.2.2.2.1) (fun w => va_Nw.warmM w q.2.2.2.1), q.2.2.2.2.1.moved (kq_al hv), q.2.2.2.2.2.1.moved (kq_al hv), q.2.2.2.2.2.2.1.moved (kq_al hv), q.2.2.2.2.2.2.2.moved (kq_al hv)⟩
/-- a new KeyCurve at o -/
def kn_ke (D : va_G) (cL cR cS : ClassId) (A : Nat → Nat) (H : Heap) (o : Nat) : Prop := va_P D kr_cl [(o, .inr (3, [.ref (o + 1), .ref (o + 6), .ref (o + 19), .ref (o + 26), .ref (o + 33)]))] H ∧ H[o + 1]? = some (kn_R cR 4 4 (fun j => o + 2 + j)) ∧ (∀ j, j < 4 → H[o + 2 + j]? = some (kq_L cL 8 0)) ∧ H[o + 6]? = some (kn_R cS 4 4 (fun j => o + 7 + 3 * j)) ∧ (∀ j, j < 4 → kn_sp D cL H (o + 7 + 3 * j)) ∧ kn_pr D cL H (o + 19) (A 0) (A 6) 2 kP ∧ kn_pr D cL H (o + 26) (A 7) (A 8) 5 kN ∧ kn_cu D cL H (o + 33) (o + 19)
/-- the object with its first fields and i Spots -/
def kn_K1 (D : va_G) (cL cR cS : ClassId) (fs : List Value) (H0 H : Heap) (o i : Nat) : Prop := (∀ q, q < o → H[q]? = H0[q]?) ∧ va_P D kr_cl [(o, .inr (3, fs))] H ∧ H[o + 1]? = some (kn_R cR 4 4 (fun j => o + 2 + j)) ∧ (∀ j, j < 4 → H[o + 2 + j]? = some (kq_L cL 8 0)) ∧ H[o + 6]? = some (kn_R cS 4 i (fun j => o + 7 + 3 * j)) ∧ ∀ j, j < i → kn_sp D cL H (o + 7 + 3 * j)
theorem kn_K1.kept {D : va_G} {cL cR cS : ClassId} {fs : List Value} {H0 H H1 : Heap} {o i : Nat} (h : kn_K1 D cL cR cS fs H0 H o i) (e : ∀ q, q < o + 7 + 3 * i → H1[q]? = H[q]?) : kn_K1 D cL cR cS fs H0 H1 o i := by
  obtain ⟨h1, h2, h3, h4, h5, h6⟩ := h
  exact ⟨fun q hq => (e q (by omega)).trans (h1 q hq), kn_keep h2 (e _ (by omega)), (e _ (by omega)).trans h3, fun j hj => (e _ (by omega)).trans (h4 j hj), (e _ (by omega)).trans h5, fun j hj => (h6 j hj).kept (fun q q1 q2 => e q (by omega))⟩
theorem kn_K1.put {D : va_G} {cL cR cS : ClassId} {fs fs1 : List Value} {H0 H H1 : Heap} {o i : Nat} (h : kn_K1 D cL cR cS fs H0 H o i) (hP : va_P D kr_cl [(o, .inr (3, fs1))] H1) (e : ∀ q, q ≠ o → H1[q]? = H[q]?) : kn_K1 D cL cR cS fs1 H0 H1 o i := by
  obtain ⟨h1, h2, h3, h4, h5, h6⟩ := h
  exact ⟨fun q hq => (e q (by omega)).trans (h1 q hq), hP, (e _ (by omega)).trans h3, fun j hj => (e _ (by omega)).trans (h4 j hj), (e _ (by omega)).trans h5, fun j hj => (h6 j hj).kept (fun q q1 q2 => e q (by omega))⟩
theorem kn_K1.more {D : va_G} {cL cR cS : ClassId} {fs : List Value} {H0 H H1 : Heap} {o i : Nat} (h : kn_K1 D cL cR cS fs H0 H o i) (hs : kn_sp D cL H (o + 7 + 3 * i)) (g : H1[o + 6]? = some (kn_R cS 4 (i + 1) (fun j => o + 7 + 3 * j))) (e : ∀ q, q ≠ o + 6 → H1[q]? = H[q]?) : kn_K1 D cL cR cS fs H0 H1 o (i + 1) := by
  obtain ⟨h1, h2, h3, h4, h5, h6⟩ := h
  refine ⟨fun q hq => (e q (by omega)).trans (h1 q hq), kn_keep h2 (e _ (by omega)), (e _ (by omega)).trans h3, fun j hj => (e _ (by omega)).trans (h4 j hj), g, fun j hj => ?_⟩
  by_cases hji : j = i
  · subst hji
    exact hs.kept (fun q q1 q2 => e q (by omega))
  · exact (h6 j (by omega)).kept (fun q q1 q2 => e q (by omega))
theorem kn_kP : 2 ≤ kw_d kP 0 := by decide +kernel
theorem kn_kN : 2 ≤ kw_d kN 0 := by decide +kernel
theorem d_Ke_init_0 : decode b_Ke_init 0 = .ok (.aload_n 0, 1) := by decide +kernel
theorem d_Ke_init_1 : decode b_Ke_init 1 = .ok (.invokespecial 1, 3) := by decide +kernel
theorem d_Ke_init_4 : decode b_Ke_init 4 = .ok (.aload_n 0, 1) := by decide +kernel
theorem d_Ke_init_5 : decode b_Ke_init 5 = .ok (.iconst 4, 1) := by decide +kernel
theorem d_Ke_init_6 : decode b_Ke_init 6 = .ok (.bipush 8, 2) := by decide +kernel
theorem d_Ke_init_8 : decode b_Ke_init 8 = .ok (.multianewarray 9 2, 4) := by decide +kernel
theorem d_Ke_init_12 : decode b_Ke_init 12 = .ok (.putfield 11, 3) := by decide +kernel
theorem d_Ke_init_15 : decode b_Ke_init 15 = .ok (.aload_n 0, 1) := by decide +kernel
theorem d_Ke_init_16 : decode b_Ke_init 16 = .ok (.iconst 4, 1) := by decide +kernel
theorem d_Ke_init_17 : decode b_Ke_init 17 = .ok (.anewarray 14, 3) := by decide +kernel
theorem d_Ke_init_20 : decode b_Ke_init 20 = .ok (.putfield 16, 3) := by decide +kernel
theorem d_Ke_init_23 : decode b_Ke_init 23 = .ok (.iconst 0, 1) := by decide +kernel
theorem d_Ke_init_24 : decode b_Ke_init 24 = .ok (.istore_n 1, 1) := by decide +kernel
theorem d_Ke_init_25 : decode b_Ke_init 25 = .ok (.iload_n 1, 1) := by decide +kernel
theorem d_Ke_init_26 : decode b_Ke_init 26 = .ok (.iconst 4, 1) := by decide +kernel
theorem d_Ke_init_27 : decode b_Ke_init 27 = .ok (.if_icmp .ge 22, 3) := by decide +kernel
theorem d_Ke_init_30 : decode b_Ke_init 30 = .ok (.aload_n 0, 1) := by decide +kernel
theorem d_Ke_init_31 : decode b_Ke_init 31 = .ok (.getfield 16, 3) := by decide +kernel
theorem d_Ke_init_34 : decode b_Ke_init 34 = .ok (.iload_n 1, 1) := by decide +kernel
theorem d_Ke_init_35 : decode b_Ke_init 35 = .ok (.new 14, 3) := by decide +kernel
theorem d_Ke_init_38 : decode b_Ke_init 38 = .ok (.dup, 1) := by decide +kernel
theorem d_Ke_init_39 : decode b_Ke_init 39 = .ok (.invokespecial 20, 3) := by decide +kernel
theorem d_Ke_init_42 : decode b_Ke_init 42 = .ok (.aastore, 1) := by decide +kernel
theorem d_Ke_init_43 : decode b_Ke_init 43 = .ok (.iinc 1 1, 3) := by decide +kernel
theorem d_Ke_init_46 : decode b_Ke_init 46 = .ok (.goto (-21), 3) := by decide +kernel
theorem d_Ke_init_49 : decode b_Ke_init 49 = .ok (.aload_n 0, 1) := by decide +kernel
theorem d_Ke_init_50 : decode b_Ke_init 50 = .ok (.new 21, 3) := by decide +kernel
theorem d_Ke_init_53 : decode b_Ke_init 53 = .ok (.dup, 1) := by decide +kernel
theorem d_Ke_init_54 : decode b_Ke_init 54 = .ok (.getstatic 23, 3) := by decide +kernel
theorem d_Ke_init_57 : decode b_Ke_init 57 = .ok (.getstatic 27, 3) := by decide +kernel
theorem d_Ke_init_60 : decode b_Ke_init 60 = .ok (.iconst 2, 1) := by decide +kernel
theorem d_Ke_init_61 : decode b_Ke_init 61 = .ok (.invokespecial 30, 3) := by decide +kernel
theorem d_Ke_init_64 : decode b_Ke_init 64 = .ok (.putfield 33, 3) := by decide +kernel
theorem d_Ke_init_67 : decode b_Ke_init 67 = .ok (.aload_n 0, 1) := by decide +kernel
theorem d_Ke_init_68 : decode b_Ke_init 68 = .ok (.new 21, 3) := by decide +kernel
theorem d_Ke_init_71 : decode b_Ke_init 71 = .ok (.dup, 1) := by decide +kernel
theorem d_Ke_init_72 : decode b_Ke_init 72 = .ok (.getstatic 37, 3) := by decide +kernel
theorem d_Ke_init_75 : decode b_Ke_init 75 = .ok (.getstatic 40, 3) := by decide +kernel
theorem d_Ke_init_78 : decode b_Ke_init 78 = .ok (.iconst 5, 1) := by decide +kernel
theorem d_Ke_init_79 : decode b_Ke_init 79 = .ok (.invokespecial 30, 3) := by decide +kernel
theorem d_Ke_init_82 : decode b_Ke_init 82 = .ok (.putfield 43, 3) := by decide +kernel
theorem d_Ke_init_85 : decode b_Ke_init 85 = .ok (.aload_n 0, 1) := by decide +kernel
theorem d_Ke_init_86 : decode b_Ke_init 86 = .ok (.new 46, 3) := by decide +kernel
theorem d_Ke_init_89 : decode b_Ke_init 89 = .ok (.dup, 1) := by decide +kernel
theorem d_Ke_init_90 : decode b_Ke_init 90 = .ok (.aload_n 0, 1) := by decide +kernel
theorem d_Ke_init_91 : decode b_Ke_init 91 = .ok (.getfield 33, 3) := by decide +kernel
theorem d_Ke_init_94 : decode b_Ke_init 94 = .ok (.invokespecial 48, 3) := by decide +kernel
theorem d_Ke_init_97 : decode b_Ke_init 97 = .ok (.putfield 51, 3) := by decide +kernel
theorem d_Ke_init_100 : decode b_Ke_init 100 = .ok (.return_, 1) := by decide +kernel
section
variable {p : Program} {l : Launch} {e : Env} {R : Room} {s : State} {m : MethodId} {args : Array Value} {below : List Frame} {meth : Method} {c : Code} {cells slots : Nat} {Q : State → Prop}
set_option maxHeartbeats 4000000 in
set_option maxRecDepth 100000 in
theorem li_Ke_init (hx : p.tables.exec = Jvm.exec) (hb : c.code = b_Ke_init) (hts : ∀ w ∈ w_Ke_init, w.before args s = true) (hown : s.vm.findClass R_Ke = some m.cls) (hml : c.maxLocals = 2) {D : va_G} {tys : List (ClassId × FieldType)} {cL cR cS : ClassId} {tL tS : Nat} (hL0 : tys[tL]? = some (cL, .long)) (hS0 : tys[tS]? = some (cS, .object "KeyCurve$Spot")) (hK : va_K D kr_cl tys s) (hMl : va_Nw (.methodLinkNest "KeyCurve" 20 ⟨"KeyCurve$Spot", "<init>", "()V"⟩ "KeyCurve") s) {H0 H : Heap} {o i : Nat} {ls : Array Slot} {locs : List Loc} (hi : i < 4) (hRf : 2 ≤ R.frames) (hRl : 38 ≤ R.locals) (hRc : cells + 3 ≤ R.cells) (hRs : slots + 19 ≤ R.slots)
    (hz : H.size = o + 7 + 3 * i) (h1 : kn_K1 D cL cR cS [.ref (o + 1), .ref (o + 6), .null, .null, .null] H0 H o i) (hlc : ∀ q ∈ locs, o ≤ q.base) (hl : lv_has ls 2 [(1, .int (nI i)), (0, .ref o)])
    (kk : ∀ (H : Heap) (ls : Array Slot) (locs : List Loc), H.size = o + 7 + 3 * (i + 1) → kn_K1 D cL cR cS [.ref (o + 1), .ref (o + 6), .null, .null, .null] H0 H o (i + 1) → (∀ q ∈ locs, o ≤ q.base) → lv_has ls 2 [(1, .int (nI (i + 1))), (0, .ref o)] → W p l e R s m args below meth c H locs (cells + 1 + 2) (slots + 3 + 16) Q (F0 m 25 ls [])) : W p l e R s m args below meth c H locs cells slots Q (F0 m 25 ls []) := by
  refine lv_iload_n hx hb d_Ke_init_25 rfl (lv_at hl 0 rfl) ?_
  refine lv_iconst (v := nI 4) hx hb d_Ke_init_26 (by decide) ?_
  refine lv_icmp_ge hx hb d_Ke_init_27 rfl (fun hc => ?_) (fun hc => ?_)
  · exact absurd hc (nI_ge hi (by decide))
  · refine lv_aload_n hx hb d_Ke_init_30 rfl (lv_at hl 1 rfl) ?_
    refine kq_get hx hb hts kt_F_Ke hown hK h1.2.1 rfl 1 (by decide) kt_w137 rfl d_Ke_init_31 ?_
    refine lv_iload_n hx hb d_Ke_init_34 rfl (lv_at hl 0 rfl) ?_
    refine kq_new (h := o + 7 + 3 * i) (fs := [.null, .null, .int 0]) hx hb hts kt_F_Sp t_Sp t_Sp_ok hown kt_w19 kt_w21 kt_w2 hK (ci := 2) rfl (fun j hj => by rcases (show j = 0 ∨ j = 1 ∨ j = 2 by omega) with rfl | rfl | rfl <;> rfl) (by omega) (by omega) hz d_Ke_init_35 (fun H5 hS z5 o5 => ?_)
    have h5 := h1.kept o5
    refine lv_dup hx hb d_Ke_init_38 rfl ?_
    refine kq_callC (va_runIN (As := []) (rest := [.ref (o + 7 + 3 * i), .int (nI i), .ref (o + 6)]) ⟨hx, hb, hml, hown, hts⟩ (c_Sp_init l D tys cL tL hL0 H5 (o + 7 + 3 * i) z5 hS) ⟨va_cnB 0 hts (kt_in kt_w24) rfl rfl rfl hMl (hts _ (List.mem_cons_of_mem _ kt_w2)) (by decide +kernel) ⟨hRf, Nat.le_trans (by decide) hRl⟩, rfl, hts _ (List.mem_cons_of_mem _ kt_w23)⟩ (kq_preS kn_K_st hK) rfl rfl hl.1 rfl (lv_room (Nat.le_of_ble_eq_true rfl)) d_Ke_init_39 ⟨by omega, by omega⟩) (fun v6 H6 L6 hq6 hL6 => ?_)
    obtain ⟨rfl, z6, o6, hs⟩ := hq6
    refine W.eq (g2 := F0 m 42 ls [.ref (o + 7 + 3 * i), .int (nI i), .ref (o + 6)]) rfl ?_
    have h6 := h5.kept o6
    refine kq_aast hx hb hK tS hS0 (r := (R_Sp, F_Sp, 3)) (ci := 2) rfl h6.2.2.2.2.1 hs.1 hi (by decide) rfl d_Ke_init_42 (fun H7 g7 z7 o7 => ?_)
    have h7 := h6.more hs g7 o7
    have hlc7 := t_lc (free := fun q => o ≤ q) (a := o + 6) (i := i) (t_lL (free := fun q => o ≤ q) hlc (fun q h => Nat.le_trans (by omega) (hL6 q h))) (Nat.le_add_right _ _)
    refine lv_iinc (k := 0) (v := nI (i + 1)) hx hb d_Ke_init_43 hl rfl (kq_inc i) (by decide) rfl (fun ls hl => ?_)
    have hl : lv_has ls 2 [(1, .int (nI (i + 1))), (0, .ref o)] := hl
    refine lv_goto hx hb d_Ke_init_46 rfl ?_
    exact kk H7 ls _ (by rw [z7, z6]; omega) h7 hlc7 (lv_sub hl [0, 1] rfl)
set_option maxHeartbeats 4000000 in
set_option maxRecDepth 100000 in
theorem lt_Ke_init (hx : p.tables.exec = Jvm.exec) (hb : c.code = b_Ke_init) (hts : ∀ w ∈ w_Ke_init, w.before args s = true) (hown : s.vm.findClass R_Ke = some m.cls) (hml : c.maxLocals = 2) (hin : meth.name = "<init>") {D : va_G} {tys : List (ClassId × FieldType)} {cL cR cS : ClassId} {tL : Nat} {A : Nat → Nat} (hL0 : tys[tL]? = some (cL, .long)) (hPB : kn_PB D tys s) {H0 H : Heap} {o : Nat} {ls : Array Slot} {locs : List Loc} (hRf : 2 ≤ R.frames) (hRl : 38 ≤ R.locals) (hRc : cells + 26 ≤ R.cells) (hRs : slots + 230 ≤ R.slots)
    (hZ : va_Z "KeyCurve" "FIELD" "[J" (.ref (A 0)) (fun q => o ≤ q) s H0 ∧ va_Z "KeyCurve" "FIELD_GAP" "[J" (.ref (A 6)) (fun q => o ≤ q) s H0 ∧ va_Z "KeyCurve" "ORDER" "[J" (.ref (A 7)) (fun q => o ≤ q) s H0 ∧ va_Z "KeyCurve" "ORDER_GAP" "[J" (.ref (A 8)) (fun q => o ≤ q) s H0) (hsP : kn_src H0 cL (A 0) kP) (hsN : kn_src H0 cL (A 7) kN) (hA0 : A 0 < o) (hA7 : A 7 < o)
    (hz : H.size = o + 19) (h1 : kn_K1 D cL cR cS [.ref (o + 1), .ref (o + 6), .null, .null, .null] H0 H o 4) (hlc : ∀ q ∈ locs, o ≤ q.base) (hl : lv_has ls 2 [(0, .ref o)])
    (kk : ∀ (H : Heap) (ls : Array Slot) (locs : List Loc), H.size = o + 45 → (∀ q, q < o → H[q]? = H0[q]?) → kn_ke D cL cR cS A H o → (∀ q ∈ locs, o ≤ q.base) → W p l e R s m args below meth c H locs (cells + 1 + 6 + 1 + 6 + 1 + 11) (slots + 9 + 56 + 9 + 56 + 12 + 88) Q (F0 m 100 ls [])) : W p l e R s m args below meth c H locs cells slots Q (F0 m 49 ls []) := by
  have hK := hPB.1
  refine lv_aload_n hx hb d_Ke_init_49 rfl (lv_at hl 0 rfl) ?_
  refine kq_new (h := o + 19) (fs := [.null, .null, .int 0, .null, .null, .null, .null, .null, .null]) hx hb hts kt_F_Pr t_Pr t_Pr_ok hown kt_w43 kt_w44 kt_w3 hK (ci := 1) rfl (fun j hj => by rcases (show j = 0 ∨ j = 1 ∨ j = 2 ∨ j = 3 ∨ j = 4 ∨ j = 5 ∨ j = 6 ∨ j = 7 ∨ j = 8 by omega) with rfl | rfl | rfl | rfl | rfl | rfl | rfl | rfl | rfl <;> rfl) (by omega) (by omega) hz d_Ke_init_50 (fun H2 hN z2 o2 => ?_)
  have h2 := h1.kept (fun q hq => o2 q (by omega))
  refine lv_dup hx hb d_Ke_init_53 rfl ?_
  refine kq_gets hx hb hts (hZ.1.kept (fun a _ hn => h2.1 a (Nat.lt_of_not_le hn))) hown kt_w45 d_Ke_init_54 ?_
  refine kq_gets hx hb hts (hZ.2.1.kept (fun a _ hn => h2.1 a (Nat.lt_of_not_le hn))) hown kt_w47 d_Ke_init_57 ?_
  refine lv_iconst (v := nI 2) hx hb d_Ke_init_60 (by decide) ?_
  refine kq_callC (va_runI (As := [.ref (A 0), .ref (A 6), .int (nI 2)]) (rest := [.ref (o + 19), .ref o]) ⟨hx, hb, hml, hown, hts⟩ (c_Pr_init l D tys cL tL hL0 H2 (o + 19) (A 0) (A 6) 2 kP z2 hN (hsP.kept (h2.1 _ hA0)) (by omega) kn_kP) (cwI 3 hts (kt_in kt_w51) rfl rfl rfl (hts _ (List.mem_cons_of_mem _ kt_w3)) (hts _ (List.mem_cons_of_mem _ kt_w49)) (hts _ (List.mem_cons_of_mem _ kt_w50)) rfl (by decide +kernel) ⟨hRf, Nat.le_trans (by decide) hRl⟩) (kq_p2S kn_PB_s2 hPB) rfl rfl hl.1 rfl (lv_room (Nat.le_of_ble_eq_true rfl)) d_Ke_init_61 ⟨by omega, by omega⟩) (fun v3 H3 L3 hq3 hL3 => ?_)
  obtain ⟨rfl, z3, o3, hf⟩ := hq3
  refine W.eq (g2 := F0 m 64 ls [.ref (o + 19), .ref o]) rfl ?_
  have h3 := h2.kept (fun q hq => o3 q (by omega))
  have hlc := t_lL (free := fun q => o ≤ q) hlc (fun q h => Nat.le_trans (by omega) (hL3 q h))
  refine kq_putF hx hb hts kt_F_Ke t_Ke t_Ke_ok n_Ke hown hK h3.2.1 rfl 2 (by decide) kt_w138 rfl hin rfl (ty := t_Ke 2) (by decide +kernel) rfl rfl (Nat.le_of_ble_eq_true rfl) d_Ke_init_64 (fun H4 L4 hP z4 o4 hL4 => ?_)
  have h4 := h3.put (fs1 := [.ref (o + 1), .ref (o + 6), .ref (o + 19), .null, .null]) hP o4
  have hz : H4.size = o + 26 := z4.trans z3
  have hlc := t_lL (free := fun q => o ≤ q) hlc (fun q h => Nat.le_of_eq (hL4 q h).symm)
  have hf := hf.kept (H1 := H4) (fun q q1 q2 => o4 q (by omega))
  refine lv_aload_n hx hb d_Ke_init_67 rfl (lv_at hl 0 rfl) ?_
  refine kq_new (h := o + 26) (fs := [.null, .null, .int 0, .null, .null, .null, .null, .null, .null]) hx hb hts kt_F_Pr t_Pr t_Pr_ok hown kt_w43 kt_w44 kt_w3 hK (ci := 1) rfl (fun j hj => by rcases (show j = 0 ∨ j = 1 ∨ j = 2 ∨ j = 3 ∨ j = 4 ∨ j = 5 ∨ j = 6 ∨ j = 7 ∨ j = 8 by omega) with rfl | rfl | rfl | rfl | rfl | rfl | rfl | rfl | rfl <;> rfl) (by omega) (by omega) hz d_Ke_init_68 (fun H5 hN z5 o5 => ?_)
  have h5 := h4.kept (fun q hq => o5 q (by omega))
  have hf := hf.kept (H1 := H5) (fun q q1 q2 => o5 q (by omega))
  refine lv_dup hx hb d_Ke_init_71 rfl ?_
  refine kq_gets hx hb hts (hZ.2.2.1.kept (fun a _ hn => h5.1 a (Nat.lt_of_not_le hn))) hown kt_w89 d_Ke_init_72 ?_
  refine kq_gets hx hb hts (hZ.2.2.2.kept (fun a _ hn => h5.1 a (Nat.lt_of_not_le hn))) hown kt_w91 d_Ke_init_75 ?_
  refine lv_iconst (v := nI 5) hx hb d_Ke_init_78 (by decide) ?_
  refine kq_callC (va_runI (As := [.ref (A 7), .ref (A 8), .int (nI 5)]) (rest := [.ref (o + 26), .ref o]) ⟨hx, hb, hml, hown, hts⟩ (c_Pr_init l D tys cL tL hL0 H5 (o + 26) (A 7) (A 8) 5 kN z5 hN (hsN.kept (h5.1 _ hA7)) (by omega) kn_kN) (cwI 3 hts (kt_in kt_w51) rfl rfl rfl (hts _ (List.mem_cons_of_mem _ kt_w3)) (hts _ (List.mem_cons_of_mem _ kt_w49)) (hts _ (List.mem_cons_of_mem _ kt_w50)) rfl (by decide +kernel) ⟨hRf, Nat.le_trans (by decide) hRl⟩) (kq_p2S kn_PB_s2 hPB) rfl rfl hl.1 rfl (lv_room (Nat.le_of_ble_eq_true rfl)) d_Ke_init_79 ⟨by omega, by omega⟩) (fun v6 H6 L6 hq6 hL6 => ?_)
  obtain ⟨rfl, z6, o6, ho⟩ := hq6
  refine W.eq (g2 := F0 m 82 ls [.ref (o + 26), .ref o]) rfl ?_
  have h6 := h5.kept (fun q hq => o6 q (by omega))
  have hlc := t_lL (free := fun q => o ≤ q) hlc (fun q h => Nat.le_trans (by omega) (hL6 q h))
  have hf := hf.kept (H1 := H6) (fun q q1 q2 => o6 q (by omega))
  refine kq_putF hx hb hts kt_F_Ke t_Ke t_Ke_ok n_Ke hown hK h6.2.1 rfl 3 (by decide) kt_w139 rfl hin rfl (ty := t_Ke 3) (by decide +kernel) rfl rfl (Nat.le_of_ble_eq_true rfl) d_Ke_init_82 (fun H7 L7 hP z7 o7 hL7 => ?_)
  have h7 := h6.put (fs1 := [.ref (o + 1), .ref (o + 6), .ref (o + 19), .ref (o + 26), .null]) hP o7
  have hz : H7.size = o + 33 := z7.trans z6
  have hlc := t_lL (free := fun q => o ≤ q) hlc (fun q h => Nat.le_of_eq (hL7 q h).symm)
  have hf := hf.kept (H1 := H7) (fun q q1 q2 => o7 q (by omega))
  have ho := ho.kept (H1 := H7) (fun q q1 q2 => o7 q (by omega))
  refine lv_aload_n hx hb d_Ke_init_85 rfl (lv_at hl 0 rfl) ?_
  refine kq_new (h := o + 33) (fs := [.null, .null, .null, .null, .null, .null, .null, .null, .null, .null, .null, .null]) hx hb hts kt_F_Cu t_Cu t_Cu_ok hown kt_w93 kt_w94 kt_w4 hK (ci := 0) rfl (fun j hj => by rcases (show j = 0 ∨ j = 1 ∨ j = 2 ∨ j = 3 ∨ j = 4 ∨ j = 5 ∨ j = 6 ∨ j = 7 ∨ j = 8 ∨ j = 9 ∨ j = 10 ∨ j = 11 by omega) with rfl | rfl | rfl | rfl | rfl | rfl | rfl | rfl | rfl | rfl | rfl | rfl <;> rfl) (by omega) (by omega) hz d_Ke_init_86 (fun H8 hN z8 o8 => ?_)
  have h8 := h7.kept (fun q hq => o8 q (by omega))
  have hf := hf.kept (H1 := H8) (fun q q1 q2 => o8 q (by omega))
  have ho := ho.kept (H1 := H8) (fun q q1 q2 => o8 q (by omega))
  refine lv_dup hx hb d_Ke_init_89 rfl ?_
  refine lv_aload_n hx hb d_Ke_init_90 rfl (lv_at hl 0 rfl) ?_
  refine kq_get hx hb hts kt_F_Ke hown hK h8.2.1 rfl 2 (by decide) kt_w138 rfl d_Ke_init_91 ?_
  refine kq_callC (va_runI (As := [.ref (o + 19)]) (rest := [.ref (o + 33), .ref o]) ⟨hx, hb, hml, hown, hts⟩ (c_Cu_init l D tys cL tL hL0 H8 (o + 33) (o + 19) z8 hN) (cwI 1 hts (kt_in kt_w97) rfl rfl rfl (hts _ (List.mem_cons_of_mem _ kt_w4)) (hts _ (List.mem_cons_of_mem _ kt_w95)) (hts _ (List.mem_cons_of_mem _ kt_w96)) rfl (by decide +kernel) ⟨hRf, Nat.le_trans (by decide) hRl⟩) (kq_preS kn_K_st hK) rfl rfl hl.1 rfl (lv_room (Nat.le_of_ble_eq_true rfl)) d_Ke_init_94 ⟨by omega, by omega⟩) (fun v9 H9 L9 hq9 hL9 => ?_)
  obtain ⟨rfl, z9, o9, hu⟩ := hq9
  refine W.eq (g2 := F0 m 97 ls [.ref (o + 33), .ref o]) rfl ?_
  have h9 := h8.kept (fun q hq => o9 q (by omega))
  have hlc := t_lL (free := fun q => o ≤ q) hlc (fun q h => Nat.le_trans (by omega) (hL9 q h))
  have hf := hf.kept (H1 := H9) (fun q q1 q2 => o9 q (by omega))
  have ho := ho.kept (H1 := H9) (fun q q1 q2 => o9 q (by omega))
  refine kq_putF hx hb hts kt_F_Ke t_Ke t_Ke_ok n_Ke hown hK h9.2.1 rfl 4 (by decide) kt_w140 rfl hin rfl (ty := t_Ke 4) (by decide +kernel) rfl rfl (Nat.le_of_ble_eq_true rfl) d_Ke_init_97 (fun H10 L10 hP z10 o10 hL10 => ?_)
  have h10 := h9.put (fs1 := [.ref (o + 1), .ref (o + 6), .ref (o + 19), .ref (o + 26), .ref (o + 33)]) hP o10
  have hz : H10.size = o + 45 := z10.trans z9
  have hlc := t_lL (free := fun q => o ≤ q) hlc (fun q h => Nat.le_of_eq (hL10 q h).symm)
  have hf := hf.kept (H1 := H10) (fun q q1 q2 => o10 q (by omega))
  have ho := ho.kept (H1 := H10) (fun q q1 q2 => o10 q (by omega))
  have hu := hu.kept (H1 := H10) (fun q q1 q2 => o10 q (by omega))
  exact kk H10 ls _ hz h10.1 ⟨h10.2.1, h10.2.2.1, h10.2.2.2.1, h10.2.2.2.2.1, h10.2.2.2.2.2, hf, ho, hu⟩ hlc
end
set_option maxHeartbeats 4000000 in
set_option maxRecDepth 100000 in
theorem c_Ke_init (l : Launch) (D : va_G) (tys : List (ClassId × FieldType)) (cL : ClassId) (tL : Nat) (hL0 : tys[tL]? = some (cL, .long)) (cR cS : ClassId) (tR tS : Nat) (hR0 : tys[tR]? = some (cR, .array .long)) (hS0 : tys[tS]? = some (cS, .object "KeyCurve$Spot")) (A : Nat → Nat) (H : Heap) (o : Nat) (hz : H.size = o + 1) (hP : va_P D kr_cl [(o, .inr (3, [.null, .null, .null, .null, .null]))] H) (hsP : kn_src H cL (A 0) kP) (hsN : kn_src H cL (A 7) kN) (hA0 : A 0 < o) (hA7 : A 7 < o) : Met l y_Ke_init w_Ke_init ({ frames := 2, cells := 44, slots := 346, locals := 38 }) (kq_P [.ref o] H (kn_KB D tys A o H)) (kq_Q (fun o1 H1 => o1 = none ∧ H1.size = o + 45 ∧ (∀ q : Nat, q < o → H1[q]? = H[q]?) ∧ kn_ke D cL cR cS A H1 o)) 44 346 (fun q => o ≤ q) := by
  refine Met.ofW (cc := b_Ke_init) (maxL := 2) (ret := none) (by decide) rfl ?_
  intro p e s m args below meth c s₁ B0 hml hv
  obtain ⟨rfl, hH, hPB, hAO, hOv, hMl, hZ⟩ := hv
  have hx := B0.exec
  have hb := B0.bytes
  have hret := B0.returns
  have hts := atoms_spec (ws := w_Ke_init) B0.pre
  have hown : s.vm.findClass R_Ke = some m.cls := findClass_of_methodNamed B0.named
  have hlocks := B0.notSynchronized
  rw [hH]
  have hl := lv_entry ([.ref o]) (n := 2) (Nat.le_of_ble_eq_true rfl)
  rw [lg_entry_eq]
  generalize (lg_sl ([.ref o]) ++ List.replicate (2 - (lg_sl ([.ref o])).length) Slot.unset).toArray = ls at hl ⊢
  have hl : lv_has ls 2 [(0, .ref o)] := hl
  have hK := hPB.1
  have hcL : s.vm.findClass ("[" ++ FieldType.long.toString) = some cL := (hK.2 tL _ hL0).2
  have hcR : s.vm.findClass ("[" ++ (FieldType.array .long).toString) = some cR := (hK.2 tR _ hR0).2
  have hcS : s.vm.findClass ("[" ++ (FieldType.object "KeyCurve$Spot").toString) = some cS := by
    obtain ⟨kA, comp, k1, k2, k3, k4⟩ := (hK.2 tS _ hS0).2
    exact k4
  have hin : meth.name = "<init>" := (name_of_methodNamed B0.named B0.method).1
  have hlc : ∀ q ∈ ([] : List Loc), o ≤ q.base := fun q h => by cases h
  have kp : ∀ q : Nat, q < o → H[q]? = H[q]? := fun _ _ => rfl
  have hC := kn_C.nil H o
  refine lv_aload_n hx hb d_Ke_init_0 rfl (lv_at hl 0 rfl) ?_
  refine kq_obj hx hb (by rw [hml]; exact hl.1.symm) hts hown kt_w14 (Nat.le_of_ble_eq_true rfl) (Nat.le_of_ble_eq_true rfl) d_Ke_init_1 ?_
  refine lv_aload_n hx hb d_Ke_init_4 rfl (lv_at hl 0 rfl) ?_
  refine lv_iconst (v := nI 4) hx hb d_Ke_init_5 (by decide) ?_
  refine lv_bipush (v := nI 8) hx hb d_Ke_init_6 (by decide) ?_
  refine kq_mna (h := o + 1) (N' := 4) (K' := 8) hx hb hown (hts _ (List.mem_cons_of_mem _ kt_w17)) (over_moved (Vm.Alike.refl _) hOv) (hts _ (List.mem_cons_of_mem _ kt_w42)) hcR hcL (nI_pos (by decide)) (nI_pos (by decide)) (nI_clamp (by decide)) (nI_clamp (by decide)) (by decide) (by decide) (by decide) rfl rfl (Nat.le_of_ble_eq_true rfl) (Nat.le_of_ble_eq_true rfl) hz d_Ke_init_8 (fun H1 z1 o1 e1 r1 => ?_)
  have hP := kn_keep hP (o1 o (by omega))
  have g1 : H1[o + 1]? = some (kn_R cR 4 4 (fun j => o + 2 + j)) := e1
  have g2 : ∀ j : Nat, j < 4 → H1[o + 2 + j]? = some (kq_L cL 8 0) := fun j hj => by
    have q := r1 j hj
    rw [kn_L0] at q
    exact q
  have hz : H1.size = o + 6 := z1
  refine kq_putF hx hb hts kt_F_Ke t_Ke t_Ke_ok n_Ke hown hK hP rfl 0 (by decide) kt_w136 rfl hin rfl (ty := t_Ke 0) (by decide +kernel) rfl rfl (Nat.le_of_ble_eq_true rfl) d_Ke_init_12 (fun H2 L2 hP z2 o2 hL2 => ?_)
  refine lv_aload_n hx hb d_Ke_init_15 rfl (lv_at hl 0 rfl) ?_
  refine lv_iconst (v := nI 4) hx hb d_Ke_init_16 (by decide) ?_
  refine kq_newq (h := o + 6) (N' := 4) hx hb hown (hts _ (List.mem_cons_of_mem _ kt_w19)) hAO hcS (fun j => o + 7 + 3 * j) (nI_pos (by decide)) (nI_clamp (by decide)) (by decide) (Nat.le_of_ble_eq_true rfl) (Nat.le_of_ble_eq_true rfl) (z2.trans hz) d_Ke_init_17 (fun H3 g6 z3 o3 => ?_)
  have hP := kn_keep hP (o3 o (by omega))
  refine kq_putF hx hb hts kt_F_Ke t_Ke t_Ke_ok n_Ke hown hK hP rfl 1 (by decide) kt_w137 rfl hin rfl (ty := t_Ke 1) (by decide +kernel) rfl rfl (Nat.le_of_ble_eq_true rfl) d_Ke_init_20 (fun H4 L4 hP z4 o4 hL4 => ?_)
  have hP : va_P D kr_cl [(o, .inr (3, [.ref (o + 1), .ref (o + 6), .null, .null, .null]))] H4 := hP
  have e4 : ∀ q, q < o + 6 → q ≠ o → H4[q]? = H1[q]? := fun q q1 q2 => (o4 q q2).trans ((o3 q q1).trans (o2 q q2))
  have k0 : kn_K1 D cL cR cS [.ref (o + 1), .ref (o + 6), .null, .null, .null] H H4 o 0 := ⟨fun q hq => (e4 q (by omega) (by omega)).trans (o1 q (by omega)), hP, (e4 _ (by omega) (by omega)).trans g1, fun j hj => (e4 _ (by omega) (by omega)).trans (g2 j hj), (o4 _ (by omega)).trans g6, fun j hj => absurd hj (Nat.not_lt_zero j)⟩
  have hz0 : H4.size = o + 7 + 3 * 0 := z4.trans z3
  have hlc0 := t_lL (free := fun q => o ≤ q) (t_lL (free := fun q => o ≤ q) hlc (fun q h => Nat.le_of_eq (hL2 q h).symm)) (fun q h => Nat.le_of_eq (hL4 q h).symm)
  refine lv_iconst (v := nI 0) hx hb d_Ke_init_23 (by decide) ?_
  refine lv_istore_n hx hb d_Ke_init_24 rfl hl (by decide) rfl (fun ls hl => ?_)
  have hl : lv_has ls 2 [(1, .int (nI 0)), (0, .ref o)] := hl
  have hl0 : lv_has ls 2 [(1, .int (nI 0)), (0, .ref o)] := hl
  refine li_Ke_init hx hb hts hown hml hL0 hS0 hK hMl (i := 0) (by decide) (Nat.le_of_ble_eq_true rfl) (Nat.le_of_ble_eq_true rfl) (Nat.le_of_ble_eq_true rfl) (Nat.le_of_ble_eq_true rfl) hz0 k0 hlc0 hl0 (fun H10 ls L10 hz1 k1 hlc1 hl1 => ?_)
  refine li_Ke_init hx hb hts hown hml hL0 hS0 hK hMl (i := 1) (by decide) (Nat.le_of_ble_eq_true rfl) (Nat.le_of_ble_eq_true rfl) (Nat.le_of_ble_eq_true rfl) (Nat.le_of_ble_eq_true rfl) hz1 k1 hlc1 hl1 (fun H11 ls L11 hz2 k2 hlc2 hl2 => ?_)
  refine li_Ke_init hx hb hts hown hml hL0 hS0 hK hMl (i := 2) (by decide) (Nat.le_of_ble_eq_true rfl) (Nat.le_of_ble_eq_true rfl) (Nat.le_of_ble_eq_true rfl) (Nat.le_of_ble_eq_true rfl) hz2 k2 hlc2 hl2 (fun H12 ls L12 hz3 k3 hlc3 hl3 => ?_)
  refine li_Ke_init hx hb hts hown hml hL0 hS0 hK hMl (i := 3) (by decide) (Nat.le_of_ble_eq_true rfl) (Nat.le_of_ble_eq_true rfl) (Nat.le_of_ble_eq_true rfl) (Nat.le_of_ble_eq_true rfl) hz3 k3 hlc3 hl3 (fun H13 ls L13 hz4 k4 hlc4 hl4 => ?_)
  have hl : lv_has ls 2 [(1, .int (nI 4)), (0, .ref o)] := hl4
  refine lv_iload_n hx hb d_Ke_init_25 rfl (lv_at hl 0 rfl) ?_
  refine lv_iconst (v := nI 4) hx hb d_Ke_init_26 (by decide) ?_
  refine lv_icmp_ge hx hb d_Ke_init_27 rfl (fun hc => ?_) (fun hc => ?_)
  · refine lt_Ke_init hx hb hts hown hml hin hL0 hPB (Nat.le_of_ble_eq_true rfl) (Nat.le_of_ble_eq_true rfl) (Nat.le_of_ble_eq_true rfl) (Nat.le_of_ble_eq_true rfl) hZ hsP hsN hA0 hA7 (H0 := H) (H := H13) hz4 k4 hlc4 (lv_sub hl [1] rfl) (fun H20 ls L20 hz20 kp20 hk20 hlc20 => ?_)
    exact W.vret hx hb hret (fun t ht _ => ⟨_, rfl, rfl, by rw [ht]; exact hz20, fun q hq => by rw [ht]; exact kp20 q hq, by rw [ht]; exact hk20⟩) hlc20 d_Ke_init_100
  · exact absurd (by decide) hc
