/-! KeyCurve$Curve: startMultiple, putSquareOfY, evenRoot, holds (own rows). -/
/-- so often as N says, by its bits from above; j of them are through -/
def kc_mj (N : Nat) (b : Bool) (bx by1 : Nat) : Nat → Option (Nat × Nat)
  | 0 => none
  | j + 1 => if N / 2 ^ (255 - j) % 2 = 1 then (if b = true then kc_twice (kc_mj N b bx by1 j) else kc_join (kc_twice (kc_mj N b bx by1 j)) bx by1) else kc_twice (kc_mj N b bx by1 j)
theorem kc_mj_s (N : Nat) (b : Bool) (bx by1 j : Nat) : kc_mj N b bx by1 (j + 1) = if N / 2 ^ (255 - j) % 2 = 1 then (if b = true then kc_twice (kc_mj N b bx by1 j) else kc_join (kc_twice (kc_mj N b bx by1 j)) bx by1) else kc_twice (kc_mj N b bx by1 j) := rfl
/-- what is under the root for x -/
def kc_sq (x : Nat) : Nat := (x * x % kP * x % kP + 7) % kP
def kc_root (a : Nat) : Nat := (a % kP) ^ ((kP + 1) / 4) % kP
def kc_even (x : Nat) : Nat := if x % 2 = 1 then kp_dif kP kP x else x
theorem d_Cu_startMultiple_0 : decode b_Cu_startMultiple 0 = .ok (.aload_n 0, 1) := by decide +kernel
theorem d_Cu_startMultiple_1 : decode b_Cu_startMultiple 1 = .ok (.invokevirtual 108, 3) := by decide +kernel
theorem d_Cu_startMultiple_4 : decode b_Cu_startMultiple 4 = .ok (.sipush 255, 3) := by decide +kernel
theorem d_Cu_startMultiple_7 : decode b_Cu_startMultiple 7 = .ok (.istore_n 3, 1) := by decide +kernel
theorem d_Cu_startMultiple_8 : decode b_Cu_startMultiple 8 = .ok (.iload_n 3, 1) := by decide +kernel
theorem d_Cu_startMultiple_9 : decode b_Cu_startMultiple 9 = .ok (.ifCond .lt 26, 3) := by decide +kernel
theorem d_Cu_startMultiple_12 : decode b_Cu_startMultiple 12 = .ok (.aload_n 0, 1) := by decide +kernel
theorem d_Cu_startMultiple_13 : decode b_Cu_startMultiple 13 = .ok (.invokevirtual 111, 3) := by decide +kernel
theorem d_Cu_startMultiple_16 : decode b_Cu_startMultiple 16 = .ok (.aload_n 2, 1) := by decide +kernel
theorem d_Cu_startMultiple_17 : decode b_Cu_startMultiple 17 = .ok (.iload_n 3, 1) := by decide +kernel
theorem d_Cu_startMultiple_18 : decode b_Cu_startMultiple 18 = .ok (.invokestatic 114, 3) := by decide +kernel
theorem d_Cu_startMultiple_21 : decode b_Cu_startMultiple 21 = .ok (.ifCond .eq 8, 3) := by decide +kernel
theorem d_Cu_startMultiple_24 : decode b_Cu_startMultiple 24 = .ok (.aload_n 0, 1) := by decide +kernel
theorem d_Cu_startMultiple_25 : decode b_Cu_startMultiple 25 = .ok (.aload_n 1, 1) := by decide +kernel
theorem d_Cu_startMultiple_26 : decode b_Cu_startMultiple 26 = .ok (.invokevirtual 118, 3) := by decide +kernel
theorem d_Cu_startMultiple_29 : decode b_Cu_startMultiple 29 = .ok (.iinc 3 (-1), 3) := by decide +kernel
theorem d_Cu_startMultiple_32 : decode b_Cu_startMultiple 32 = .ok (.goto (-24), 3) := by decide +kernel
theorem d_Cu_startMultiple_35 : decode b_Cu_startMultiple 35 = .ok (.return_, 1) := by decide +kernel
section
variable {p : Program} {l : Launch} {e : Env} {R : Room} {s : State} {m : MethodId} {args : Array Value} {below : List Frame} {meth : Method} {c : Code} {cells slots : Nat} {Q : State → Prop}
set_option maxHeartbeats 4000000 in
set_option maxRecDepth 100000 in
theorem lp_Cu_startMultiple (hx : p.tables.exec = Jvm.exec) (hb : c.code = b_Cu_startMultiple) (hts : ∀ w ∈ w_Cu_startMultiple, w.before args s = true) (hown : s.vm.findClass R_Cu = some m.cls) (hml : c.maxLocals = 4) (hRf : 5 ≤ R.frames) (hRl : 117 ≤ R.locals) {E : kr_E} {A : Nat → Nat} {h pa ga gw G hc : Nat} (hE : kr_ok E) (hA : kr_A E A) (hP : kr_P E h pa ga gw kP G) (hV : kr_V E hc h) (hC : kr_C E A s) {sp nr : Nat} {b : Bool} {v : Nat → Nat} (hS : kr_Sp E sp b) (hsp : sp + 2 < h) (hbp : b = false → v (sp + 1) < kP ∧ v (sp + 2) < kP) (hnr : kr_in E nr) (hnh : nr < h)
    (kk : ∀ (w : Nat → Nat) (H : Heap) (ls : Array Slot) (locs : List Loc), kr_W E w H → kc_rep (kc_mj (v nr) b (v (sp + 1)) (v (sp + 2)) 256) (w (hc + 1)) (w (hc + 2)) (w (hc + 3)) → (∀ q, ¬ kr_fr h hc q → w q = v q) → (∀ q ∈ locs, kr_fr h hc q.base) → W p l e R s m args below meth c H locs 0 0 Q (F0 m 35 ls [])) :
    ∀ (n : Nat) (w : Nat → Nat) (H : Heap) (ls : Array Slot) (locs : List Loc), n ≤ 256 → kr_W E w H → kc_rep (kc_mj (v nr) b (v (sp + 1)) (v (sp + 2)) (256 - n)) (w (hc + 1)) (w (hc + 2)) (w (hc + 3)) → (∀ q, ¬ kr_fr h hc q → w q = v q) → (∀ q ∈ locs, kr_fr h hc q.base) → lv_has ls 4 [(3, .int (kq_dn n)), (0, .ref hc), (1, .ref sp), (2, .ref nr)] → W p l e R s m args below meth c H locs 0 0 Q (F0 m 8 ls []) := by
  intro n
  induction n with
  | zero =>
    intro w H ls locs hn hW h1 ho hlc hl
    refine lv_iload_n hx hb d_Cu_startMultiple_8 rfl (lv_at hl 0 rfl) ?_
    refine lv_if_lt hx hb d_Cu_startMultiple_9 rfl (fun hcc => ?_) (fun hcc => ?_)
    · exact kk w H ls locs hW h1 ho hlc
    · exact absurd (by decide) hcc
  | succ n ih =>
    intro w H ls locs hn hW h1 ho hlc hl
    have hl : lv_has ls 4 [(3, .int (nI n)), (0, .ref hc), (1, .ref sp), (2, .ref nr)] := hl
    have hB := hC.1
    have hhc := hV.2.2.2
    have hO := kr_obj hW hV.1 hV.2.1
    have es : kc_mj (v nr) b (v (sp + 1)) (v (sp + 2)) (256 - n) = if v nr / 2 ^ n % 2 = 1 then (if b = true then kc_twice (kc_mj (v nr) b (v (sp + 1)) (v (sp + 2)) (256 - (n + 1))) else kc_join (kc_twice (kc_mj (v nr) b (v (sp + 1)) (v (sp + 2)) (256 - (n + 1)))) (v (sp + 1)) (v (sp + 2))) else kc_twice (kc_mj (v nr) b (v (sp + 1)) (v (sp + 2)) (256 - (n + 1))) := by
      have q1 : 256 - n = (256 - (n + 1)) + 1 := by omega
      have q2 : 255 - (256 - (n + 1)) = n := by omega
      rw [q1, kc_mj_s, q2]
    refine lv_iload_n hx hb d_Cu_startMultiple_8 rfl (lv_at hl 0 rfl) ?_
    refine lv_if_lt hx hb d_Cu_startMultiple_9 rfl (fun hcc => ?_) (fun hcc => ?_)
    · exact absurd hcc (nI_pos (by omega))
    · refine lv_aload_n hx hb d_Cu_startMultiple_12 rfl (lv_at hl 1 rfl) ?_
      refine kq_call (va_runV (As := []) (rest := []) ⟨hx, hb, hml, hown, hts⟩ (c_Cu_twice l E A h pa ga gw G hc w H hE hA hP hV hW _ h1) (cwV 0 hts (kt_inV kt_w341 kt_w338 kt_w340 kt_s9 kt_w4) rfl rfl rfl (by decide +kernel) ⟨Nat.le_trans (Nat.le_of_ble_eq_true rfl) hRf, Nat.le_trans (Nat.le_of_ble_eq_true rfl) hRl⟩) (kq_p2V (kr_C_s2 E A) (hC) (kq_recv hC.1.1 hO rfl)) rfl rfl hl.1 rfl (lv_room (Nat.le_of_ble_eq_true rfl)) d_Cu_startMultiple_13 ⟨Nat.zero_le _, Nat.zero_le _⟩) (fun u2 H2 L2 hq2 hL2 => ?_)
      obtain ⟨rfl, w2, hW2, r2, k2⟩ := hq2
      refine W.eq (g2 := F0 m 16 ls []) rfl ?_
      have hlc2 := t_lL (free := kr_fr h hc) hlc hL2
      have k2' : ∀ q, ¬ kr_fr h hc q → w2 q = v q := fun q hq => by rw [k2 q hq]; exact ho q hq
      have hO2 := kr_obj hW2 hV.1 hV.2.1
      have hsn := kr_src hE hW2 hB hnr
      rw [k2' nr (by unfold kr_fr; omega)] at hsn
      refine lv_aload_n hx hb d_Cu_startMultiple_16 rfl (lv_at hl 3 rfl) ?_
      refine lv_iload_n hx hb d_Cu_startMultiple_17 rfl (lv_at hl 0 rfl) ?_
      refine kq_call (va_runS (As := [.ref nr, .int (nI n)]) (rest := []) ⟨hx, hb, hml, hown, hts⟩ (c_Wo_hasBit l H2 nr (v nr) n (by omega)) (va_cwS 2 hts (kt_inS kt_w246 kt_w356 kt_w245 kt_w6) rfl rfl rfl (by decide +kernel) ⟨Nat.le_trans (Nat.le_of_ble_eq_true rfl) hRf, Nat.le_trans (Nat.le_of_ble_eq_true rfl) hRl⟩) (kq_preS (kq_st_r) (hsn)) rfl rfl hl.1 rfl (lv_room (Nat.le_of_ble_eq_true rfl)) d_Cu_startMultiple_18 ⟨Nat.zero_le _, Nat.zero_le _⟩) (fun u3 H3 L3 hq3 hL3 => ?_)
      obtain ⟨rfl, e9⟩ := hq3
      rw [e9]
      clear e9
      refine W.eq (g2 := F0 m 21 ls [.int (kq_z (decide (v nr / 2 ^ n % 2 = 1)))]) rfl ?_
      have hlc3 := t_lL (free := kr_fr h hc) hlc2 (fun q z => (hL3 q z).elim)
      refine lv_if_eq hx hb d_Cu_startMultiple_21 rfl (fun hc0 => ?_) (fun hc0 => ?_)
      · have hb0 := kq_z_eq.mp hc0
        rw [if_neg hb0] at es
        refine lv_iinc (k := 0) (v := kq_dn n) hx hb d_Cu_startMultiple_29 hl rfl (kq_dn_dec n) (by decide) rfl (fun ls hl => ?_)
        have hl : lv_has ls 4 [(3, .int (kq_dn n)), (0, .ref hc), (1, .ref sp), (2, .ref nr)] := hl
        refine lv_goto hx hb d_Cu_startMultiple_32 rfl ?_
        exact ih w2 H2 ls _ (by omega) hW2 (by rw [es]; exact r2) k2' hlc3 (lv_sub hl [0, 1, 2, 3] rfl)
      · have hb1 : v nr / 2 ^ n % 2 = 1 := kq_z_ne.mp hc0
        rw [if_pos hb1] at es
        have y1 := k2' (sp + 1) (by unfold kr_fr; omega)
        have y2 := k2' (sp + 2) (by unfold kr_fr; omega)
        refine lv_aload_n hx hb d_Cu_startMultiple_24 rfl (lv_at hl 1 rfl) ?_
        refine lv_aload_n hx hb d_Cu_startMultiple_25 rfl (lv_at hl 2 rfl) ?_
        refine kq_call (va_runV (As := [.ref sp]) (rest := []) ⟨hx, hb, hml, hown, hts⟩ (c_Cu_join l E A h pa ga gw G hc sp w2 H2 hE hA hP hV hW2 b hS hsp _ r2 (fun q => by rw [y1, y2]; exact hbp q)) (cwV 1 hts (kt_inV kt_w328 kt_w357 kt_w326 kt_w327 kt_w4) rfl rfl rfl (by decide +kernel) ⟨Nat.le_trans (Nat.le_of_ble_eq_true rfl) hRf, Nat.le_trans (Nat.le_of_ble_eq_true rfl) hRl⟩) (kq_p2V (kr_C_s2 E A) (hC) (kq_recv hC.1.1 hO2 rfl)) rfl rfl hl.1 rfl (lv_room (Nat.le_of_ble_eq_true rfl)) d_Cu_startMultiple_26 ⟨Nat.zero_le _, Nat.zero_le _⟩) (fun u4 H4 L4 hq4 hL4 => ?_)
        obtain ⟨rfl, w4, hW4, r4, k4⟩ := hq4
        refine W.eq (g2 := F0 m 29 ls []) rfl ?_
        refine lv_iinc (k := 0) (v := kq_dn n) hx hb d_Cu_startMultiple_29 hl rfl (kq_dn_dec n) (by decide) rfl (fun ls hl => ?_)
        have hl : lv_has ls 4 [(3, .int (kq_dn n)), (0, .ref hc), (1, .ref sp), (2, .ref nr)] := hl
        refine lv_goto hx hb d_Cu_startMultiple_32 rfl ?_
        refine ih w4 H4 ls _ (by omega) hW4 ?_ (fun q hq => by rw [k4 q hq]; exact k2' q hq) (t_lL (free := kr_fr h hc) hlc3 hL4) (lv_sub hl [0, 1, 2, 3] rfl)
        rw [y1, y2] at r4
        rw [es]
        exact r4
end
set_option maxHeartbeats 4000000 in
set_option maxRecDepth 100000 in
theorem c_Cu_startMultiple (l : Launch) (E : kr_E) (A : Nat → Nat) (h pa ga gw G hc sp : Nat) (v : Nat → Nat) (H : Heap) (hE : kr_ok E) (hA : kr_A E A) (hP : kr_P E h pa ga gw kP G) (hV : kr_V E hc h) (hW : kr_W E v H) (b : Bool) (hS : kr_Sp E sp b) (hsp : sp + 2 < h) (hbp : b = false → v (sp + 1) < kP ∧ v (sp + 2) < kP) (nr : Nat) (hnr : kr_in E nr) (hnh : nr < h) : Met l y_Cu_startMultiple w_Cu_startMultiple ({ frames := 5, cells := 0, slots := 0, locals := 117 }) (kq_P [.ref hc, .ref sp, .ref nr] H (kr_C E A)) (kq_Q (fun o1 H1 => o1 = none ∧ ∃ w : Nat → Nat, kr_W E w H1 ∧ kc_rep (kc_mj (v nr) b (v (sp + 1)) (v (sp + 2)) 256) (w (hc + 1)) (w (hc + 2)) (w (hc + 3)) ∧ ∀ q, ¬ kr_fr h hc q → w q = v q)) 0 0 (kr_fr h hc) := by
  refine Met.ofW (cc := b_Cu_startMultiple) (maxL := 4) (ret := none) (by decide) rfl ?_
  intro p e s m args below meth c s₁ B0 hml hv
  obtain ⟨rfl, hH, hC⟩ := hv
  have hx := B0.exec
  have hb := B0.bytes
  have hret := B0.returns
  have hts := atoms_spec (ws := w_Cu_startMultiple) B0.pre
  have hown : s.vm.findClass R_Cu = some m.cls := findClass_of_methodNamed B0.named
  have hlocks := B0.notSynchronized
  rw [hH]
  have hl := lv_entry ([.ref hc, .ref sp, .ref nr]) (n := 4) (Nat.le_of_ble_eq_true rfl)
  rw [lg_entry_eq]
  generalize (lg_sl ([.ref hc, .ref sp, .ref nr]) ++ List.replicate (4 - (lg_sl ([.ref hc, .ref sp, .ref nr])).length) Slot.unset).toArray = ls at hl ⊢
  have hl : lv_has ls 4 [(0, .ref hc), (1, .ref sp), (2, .ref nr)] := hl
  have hB := hC.1
  have hT := kr_T hE hB
  have hK := hB.1
  have hhc := hV.2.2.2
  have hlc0 : ∀ q ∈ ([] : List Loc), kr_fr h hc q.base := fun q h => by cases h
  have hO := kr_obj hW hV.1 hV.2.1
  refine lv_aload_n hx hb d_Cu_startMultiple_0 rfl (lv_at hl 0 rfl) ?_
  refine kq_call (va_runV (As := []) (rest := []) ⟨hx, hb, hml, hown, hts⟩ (c_Cu_start l E A h pa ga gw G hc v H hE hA hP hV hW) (cwV 0 hts (kt_inV kt_w323 kt_w342 kt_w321 kt_w322 kt_w4) rfl rfl rfl (by decide +kernel) ⟨Nat.le_of_ble_eq_true rfl, Nat.le_of_ble_eq_true rfl⟩) (kq_p2V (kr_C_s2 E A) (hC) (kq_recv hC.1.1 hO rfl)) rfl rfl hl.1 rfl (lv_room (Nat.le_of_ble_eq_true rfl)) d_Cu_startMultiple_1 ⟨Nat.zero_le _, Nat.zero_le _⟩) (fun u2 H2 L2 hq2 hL2 => ?_)
  obtain ⟨rfl, w2, hW2, z2, k2⟩ := hq2
  refine W.eq (g2 := F0 m 4 ls []) rfl ?_
  refine lv_sipush (v := nI 255) hx hb d_Cu_startMultiple_4 (by decide) ?_
  refine lv_istore_n hx hb d_Cu_startMultiple_7 rfl hl (by decide) rfl (fun ls hl => ?_)
  have hl : lv_has ls 4 [(3, .int (nI 255)), (0, .ref hc), (1, .ref sp), (2, .ref nr)] := hl
  have hlc2 := t_lL (free := kr_fr h hc) hlc0 hL2
  refine lp_Cu_startMultiple hx hb hts hown hml (Nat.le_of_ble_eq_true rfl) (Nat.le_of_ble_eq_true rfl) hE hA hP hV hC (v := v) hS hsp hbp hnr hnh (fun w3 H3 ls L3 hW3 r3 k3 hL3 => ?_) 256 w2 H2 ls _ (Nat.le_refl 256) hW2 (by rw [z2]; exact kc_rep_none _ _) k2 hlc2 (lv_sub hl [0, 1, 2, 3] rfl)
  exact W.vret hx hb hret (fun t ht _ => ⟨_, rfl, rfl, w3, by rw [ht]; exact hW3, r3, k3⟩) hL3 d_Cu_startMultiple_35
theorem d_Cu_putSquareOfY_0 : decode b_Cu_putSquareOfY 0 = .ok (.aload_n 0, 1) := by decide +kernel
theorem d_Cu_putSquareOfY_1 : decode b_Cu_putSquareOfY 1 = .ok (.getfield 45, 3) := by decide +kernel
theorem d_Cu_putSquareOfY_4 : decode b_Cu_putSquareOfY 4 = .ok (.aload_n 1, 1) := by decide +kernel
theorem d_Cu_putSquareOfY_5 : decode b_Cu_putSquareOfY 5 = .ok (.aload_n 2, 1) := by decide +kernel
theorem d_Cu_putSquareOfY_6 : decode b_Cu_putSquareOfY 6 = .ok (.aload_n 2, 1) := by decide +kernel
theorem d_Cu_putSquareOfY_7 : decode b_Cu_putSquareOfY 7 = .ok (.invokevirtual 68, 3) := by decide +kernel
theorem d_Cu_putSquareOfY_10 : decode b_Cu_putSquareOfY 10 = .ok (.aload_n 0, 1) := by decide +kernel
theorem d_Cu_putSquareOfY_11 : decode b_Cu_putSquareOfY 11 = .ok (.getfield 45, 3) := by decide +kernel
theorem d_Cu_putSquareOfY_14 : decode b_Cu_putSquareOfY 14 = .ok (.aload_n 1, 1) := by decide +kernel
theorem d_Cu_putSquareOfY_15 : decode b_Cu_putSquareOfY 15 = .ok (.aload_n 1, 1) := by decide +kernel
theorem d_Cu_putSquareOfY_16 : decode b_Cu_putSquareOfY 16 = .ok (.aload_n 2, 1) := by decide +kernel
theorem d_Cu_putSquareOfY_17 : decode b_Cu_putSquareOfY 17 = .ok (.invokevirtual 68, 3) := by decide +kernel
theorem d_Cu_putSquareOfY_20 : decode b_Cu_putSquareOfY 20 = .ok (.aload_n 0, 1) := by decide +kernel
theorem d_Cu_putSquareOfY_21 : decode b_Cu_putSquareOfY 21 = .ok (.getfield 45, 3) := by decide +kernel
theorem d_Cu_putSquareOfY_24 : decode b_Cu_putSquareOfY 24 = .ok (.aload_n 1, 1) := by decide +kernel
theorem d_Cu_putSquareOfY_25 : decode b_Cu_putSquareOfY 25 = .ok (.aload_n 1, 1) := by decide +kernel
theorem d_Cu_putSquareOfY_26 : decode b_Cu_putSquareOfY 26 = .ok (.getstatic 99, 3) := by decide +kernel
theorem d_Cu_putSquareOfY_29 : decode b_Cu_putSquareOfY 29 = .ok (.invokevirtual 102, 3) := by decide +kernel
theorem d_Cu_putSquareOfY_32 : decode b_Cu_putSquareOfY 32 = .ok (.return_, 1) := by decide +kernel
set_option maxHeartbeats 4000000 in
set_option maxRecDepth 100000 in
theorem c_Cu_putSquareOfY (l : Launch) (E : kr_E) (A : Nat → Nat) (h pa ga gw G hc : Nat) (v : Nat → Nat) (H : Heap) (hE : kr_ok E) (hA : kr_A E A) (hP : kr_P E h pa ga gw kP G) (hV : kr_V E hc h) (hW : kr_W E v H) (ax : Nat) (hax : kr_out E ax) (hxh : ax < h) : Met l y_Cu_putSquareOfY w_Cu_putSquareOfY ({ frames := 3, cells := 0, slots := 0, locals := 75 }) (kq_P [.ref hc, .ref (hc + 7), .ref ax] H (kr_C E A)) (kq_Q (fun o1 H1 => o1 = none ∧ ∃ w : Nat → Nat, kr_W E w H1 ∧ w (hc + 7) = kc_sq (v ax) ∧ ∀ q, ¬ kr_fr h hc q → w q = v q)) 0 0 (kr_fr h hc) := by
  refine Met.ofW (cc := b_Cu_putSquareOfY) (maxL := 3) (ret := none) (by decide) rfl ?_
  intro p e s m args below meth c s₁ B0 hml hv
  obtain ⟨rfl, hH, hC⟩ := hv
  have hx := B0.exec
  have hb := B0.bytes
  have hret := B0.returns
  have hts := atoms_spec (ws := w_Cu_putSquareOfY) B0.pre
  have hown : s.vm.findClass R_Cu = some m.cls := findClass_of_methodNamed B0.named
  have hlocks := B0.notSynchronized
  rw [hH]
  have hl := lv_entry ([.ref hc, .ref (hc + 7), .ref ax]) (n := 3) (Nat.le_of_ble_eq_true rfl)
  rw [lg_entry_eq]
  generalize (lg_sl ([.ref hc, .ref (hc + 7), .ref ax]) ++ List.replicate (3 - (lg_sl ([.ref hc, .ref (hc + 7), .ref ax])).length) Slot.unset).toArray = ls at hl ⊢
  have hl : lv_has ls 3 [(0, .ref hc), (1, .ref (hc + 7)), (2, .ref ax)] := hl
  have hB := hC.1
  have hT := kr_T hE hB
  have hK := hB.1
  have hhc := hV.2.2.2
  have hlc0 : ∀ q ∈ ([] : List Loc), kr_fr h hc q.base := fun q h => by cases h
  have hOc0 := kr_obj hW hV.1 hV.2.1
  have hOp0 := kr_obj hW hP.1 hP.2.1
  have hA2 : A 2 ≠ h + 1 ∧ A 2 ≠ h + 2 ∧ A 2 ≠ hc + 7 := ⟨fun q => hE.1 _ hA.2.2.1.1 (by rw [q]; exact hP.2.2.2.2.2.2.2.2.1.1), fun q => hE.1 _ hA.2.2.1.1 (by rw [q]; exact hP.2.2.2.2.2.2.2.2.2.1.1), fun q => hE.1 _ hA.2.2.1.1 (by rw [q]; exact (hV.2.2.1 7 (by decide) (by decide)).1)⟩
  refine lv_aload_n hx hb d_Cu_putSquareOfY_0 rfl (lv_at hl 0 rfl) ?_
  refine kq_get hx hb hts kt_F_Cu hown hK hOc0 rfl 0 (by decide) kt_w99 rfl d_Cu_putSquareOfY_1 ?_
  refine lv_aload_n hx hb d_Cu_putSquareOfY_4 rfl (lv_at hl 1 rfl) ?_
  refine lv_aload_n hx hb d_Cu_putSquareOfY_5 rfl (lv_at hl 2 rfl) ?_
  refine lv_aload_n hx hb d_Cu_putSquareOfY_6 rfl (lv_at hl 2 rfl) ?_
  refine kq_call (va_runV (As := [.ref (hc + 7), .ref ax, .ref ax]) (rest := []) ⟨hx, hb, hml, hown, hts⟩ (c_Pr_product l E h pa ga gw kP G v H hE hP hW (hc + 7) (ax) (ax) (hV.2.2.1 7 (by decide) (by decide)) (Or.inl hax) (Or.inl hax)) (cwV 3 hts (kt_inV kt_w206 kt_w260 kt_w204 kt_w205 kt_w3) rfl rfl rfl (by decide +kernel) ⟨Nat.le_of_ble_eq_true rfl, Nat.le_of_ble_eq_true rfl⟩) (kq_preV (kr_st E) (hC.1) (kq_recv hC.1.1 hOp0 rfl)) rfl rfl hl.1 rfl (lv_room (Nat.le_of_ble_eq_true rfl)) d_Cu_putSquareOfY_7 ⟨Nat.zero_le _, Nat.zero_le _⟩) (fun u1 H1 L1 hq1 hL1 => ?_)
  obtain ⟨rfl, w1, hW1, f1, o1⟩ := hq1
  refine W.eq (g2 := F0 m 10 ls []) rfl ?_
  have hlc1 := t_lL (free := kr_fr h hc) hlc0 (fun q z => by rcases hL1 q z with z | z | z <;> (rw [z]; unfold kr_fr; omega))
  have e1 : w1 (hc + 7) = v (ax) * v (ax) % kP := by rw [f1]
  have hOc1 := kr_obj hW1 hV.1 hV.2.1
  have hOp1 := kr_obj hW1 hP.1 hP.2.1
  refine lv_aload_n hx hb d_Cu_putSquareOfY_10 rfl (lv_at hl 0 rfl) ?_
  refine kq_get hx hb hts kt_F_Cu hown hK hOc1 rfl 0 (by decide) kt_w99 rfl d_Cu_putSquareOfY_11 ?_
  refine lv_aload_n hx hb d_Cu_putSquareOfY_14 rfl (lv_at hl 1 rfl) ?_
  refine lv_aload_n hx hb d_Cu_putSquareOfY_15 rfl (lv_at hl 1 rfl) ?_
  refine lv_aload_n hx hb d_Cu_putSquareOfY_16 rfl (lv_at hl 2 rfl) ?_
  refine kq_call (va_runV (As := [.ref (hc + 7), .ref (hc + 7), .ref ax]) (rest := []) ⟨hx, hb, hml, hown, hts⟩ (c_Pr_product l E h pa ga gw kP G w1 H1 hE hP hW1 (hc + 7) (hc + 7) (ax) (hV.2.2.1 7 (by decide) (by decide)) (Or.inl (hV.2.2.1 7 (by decide) (by decide))) (Or.inl hax)) (cwV 3 hts (kt_inV kt_w206 kt_w260 kt_w204 kt_w205 kt_w3) rfl rfl rfl (by decide +kernel) ⟨Nat.le_of_ble_eq_true rfl, Nat.le_of_ble_eq_true rfl⟩) (kq_preV (kr_st E) (hC.1) (kq_recv hC.1.1 hOp1 rfl)) rfl rfl hl.1 rfl (lv_room (Nat.le_of_ble_eq_true rfl)) d_Cu_putSquareOfY_17 ⟨Nat.zero_le _, Nat.zero_le _⟩) (fun u2 H2 L2 hq2 hL2 => ?_)
  obtain ⟨rfl, w2, hW2, f2, o2⟩ := hq2
  refine W.eq (g2 := F0 m 20 ls []) rfl ?_
  have hlc2 := t_lL (free := kr_fr h hc) hlc1 (fun q z => by rcases hL2 q z with z | z | z <;> (rw [z]; unfold kr_fr; omega))
  have e2 : w2 (hc + 7) = w1 (hc + 7) * v (ax) % kP := by rw [f2, o1 (ax) (by omega) (by omega) (by omega)]
  have hOc2 := kr_obj hW2 hV.1 hV.2.1
  have hOp2 := kr_obj hW2 hP.1 hP.2.1
  refine lv_aload_n hx hb d_Cu_putSquareOfY_20 rfl (lv_at hl 0 rfl) ?_
  refine kq_get hx hb hts kt_F_Cu hown hK hOc2 rfl 0 (by decide) kt_w99 rfl d_Cu_putSquareOfY_21 ?_
  refine lv_aload_n hx hb d_Cu_putSquareOfY_24 rfl (lv_at hl 1 rfl) ?_
  refine lv_aload_n hx hb d_Cu_putSquareOfY_25 rfl (lv_at hl 1 rfl) ?_
  refine kq_getsN hx hb (kr_zat hW2 hC.2.2.2.2.1) hown hC.2.1.2.2.2.1 d_Cu_putSquareOfY_26 ?_
  refine kq_call (va_runV (As := [.ref (hc + 7), .ref (hc + 7), .ref (A 2)]) (rest := []) ⟨hx, hb, hml, hown, hts⟩ (c_Pr_sum l E h pa ga gw kP G w2 H2 hE hP hW2 (hc + 7) (hc + 7) (A 2) (hV.2.2.1 7 (by decide) (by decide)) (Or.inl (hV.2.2.1 7 (by decide) (by decide))) (Or.inr hA.2.2.1.1)) (cwV 3 hts (kt_inV kt_w176 kt_w305 kt_w174 kt_w175 kt_w3) rfl rfl rfl (by decide +kernel) ⟨Nat.le_of_ble_eq_true rfl, Nat.le_of_ble_eq_true rfl⟩) (kq_preV (kr_st E) (hC.1) (kq_recv hC.1.1 hOp2 rfl)) rfl rfl hl.1 rfl (lv_room (Nat.le_of_ble_eq_true rfl)) d_Cu_putSquareOfY_29 ⟨Nat.zero_le _, Nat.zero_le _⟩) (fun u3 H3 L3 hq3 hL3 => ?_)
  obtain ⟨rfl, hX3⟩ := hq3
  refine W.eq (g2 := F0 m 32 ls []) rfl ?_
  obtain ⟨w3, f3, o3, hW3⟩ : ∃ w : Nat → Nat, w (hc + 7) = (w2 (hc + 7) + w2 (A 2)) % kP ∧ (∀ q, q ≠ hc + 7 → w q = w2 q) ∧ kr_W E w H3 := ⟨_, kq_up_at, fun q hq => kq_up_ne hq, hX3⟩
  have hlc3 := t_lL (free := kr_fr h hc) hlc2 (fun q z => by rw [hL3 q z]; unfold kr_fr; omega)
  have e3 : w3 (hc + 7) = (w2 (hc + 7) + v (A 2)) % kP := by rw [f3, o2 (A 2) (by omega) (by omega) (by omega), o1 (A 2) (by omega) (by omega) (by omega)]
  have hOc3 := kr_obj hW3 hV.1 hV.2.1
  have hOp3 := kr_obj hW3 hP.1 hP.2.1
  have h7 : v (A 2) = 7 := kr_cst hW hA.2.2.1
  refine W.vret hx hb hret (fun t ht _ => ⟨_, rfl, rfl, w3, by rw [ht]; exact hW3, by rw [e3, e2, e1, h7]; rfl, fun q hq => by
        have hq1 := hq
        unfold kr_fr at hq1
        rw [o3 q (by omega), o2 q (by omega) (by omega) (by omega), o1 q (by omega) (by omega) (by omega)]⟩) hlc3 d_Cu_putSquareOfY_32
theorem d_Cu_holds_0 : decode b_Cu_holds 0 = .ok (.aload_n 1, 1) := by decide +kernel
theorem d_Cu_holds_1 : decode b_Cu_holds 1 = .ok (.getstatic 79, 3) := by decide +kernel
theorem d_Cu_holds_4 : decode b_Cu_holds 4 = .ok (.invokestatic 85, 3) := by decide +kernel
theorem d_Cu_holds_7 : decode b_Cu_holds 7 = .ok (.ifCond .eq 13, 3) := by decide +kernel
theorem d_Cu_holds_10 : decode b_Cu_holds 10 = .ok (.aload_n 2, 1) := by decide +kernel
theorem d_Cu_holds_11 : decode b_Cu_holds 11 = .ok (.getstatic 79, 3) := by decide +kernel
theorem d_Cu_holds_14 : decode b_Cu_holds 14 = .ok (.invokestatic 85, 3) := by decide +kernel
theorem d_Cu_holds_17 : decode b_Cu_holds 17 = .ok (.ifCond .ne 5, 3) := by decide +kernel
theorem d_Cu_holds_20 : decode b_Cu_holds 20 = .ok (.iconst 0, 1) := by decide +kernel
theorem d_Cu_holds_21 : decode b_Cu_holds 21 = .ok (.ireturn, 1) := by decide +kernel
theorem d_Cu_holds_22 : decode b_Cu_holds 22 = .ok (.aload_n 0, 1) := by decide +kernel
theorem d_Cu_holds_23 : decode b_Cu_holds 23 = .ok (.aload_n 0, 1) := by decide +kernel
theorem d_Cu_holds_24 : decode b_Cu_holds 24 = .ok (.getfield 30, 3) := by decide +kernel
theorem d_Cu_holds_27 : decode b_Cu_holds 27 = .ok (.aload_n 1, 1) := by decide +kernel
theorem d_Cu_holds_28 : decode b_Cu_holds 28 = .ok (.invokevirtual 88, 3) := by decide +kernel
theorem d_Cu_holds_31 : decode b_Cu_holds 31 = .ok (.aload_n 0, 1) := by decide +kernel
theorem d_Cu_holds_32 : decode b_Cu_holds 32 = .ok (.getfield 45, 3) := by decide +kernel
theorem d_Cu_holds_35 : decode b_Cu_holds 35 = .ok (.aload_n 0, 1) := by decide +kernel
theorem d_Cu_holds_36 : decode b_Cu_holds 36 = .ok (.getfield 42, 3) := by decide +kernel
theorem d_Cu_holds_39 : decode b_Cu_holds 39 = .ok (.aload_n 2, 1) := by decide +kernel
theorem d_Cu_holds_40 : decode b_Cu_holds 40 = .ok (.aload_n 2, 1) := by decide +kernel
theorem d_Cu_holds_41 : decode b_Cu_holds 41 = .ok (.invokevirtual 68, 3) := by decide +kernel
theorem d_Cu_holds_44 : decode b_Cu_holds 44 = .ok (.aload_n 0, 1) := by decide +kernel
theorem d_Cu_holds_45 : decode b_Cu_holds 45 = .ok (.getfield 42, 3) := by decide +kernel
theorem d_Cu_holds_48 : decode b_Cu_holds 48 = .ok (.aload_n 0, 1) := by decide +kernel
theorem d_Cu_holds_49 : decode b_Cu_holds 49 = .ok (.getfield 30, 3) := by decide +kernel
theorem d_Cu_holds_52 : decode b_Cu_holds 52 = .ok (.invokestatic 71, 3) := by decide +kernel
theorem d_Cu_holds_55 : decode b_Cu_holds 55 = .ok (.ireturn, 1) := by decide +kernel
set_option maxHeartbeats 4000000 in
set_option maxRecDepth 100000 in
theorem c_Cu_holds (l : Launch) (E : kr_E) (A : Nat → Nat) (h pa ga gw G hc : Nat) (v : Nat → Nat) (H : Heap) (hE : kr_ok E) (hA : kr_A E A) (hP : kr_P E h pa ga gw kP G) (hV : kr_V E hc h) (hW : kr_W E v H) (ax ay : Nat) (hax : kr_out E ax) (hay : kr_out E ay) (hxh : ax < h) (hyh : ay < h) : Met l y_Cu_holds w_Cu_holds ({ frames := 4, cells := 0, slots := 0, locals := 97 }) (kq_P [.ref hc, .ref ax, .ref ay] H (kr_C E A)) (kq_Q (fun o1 H1 => o1 = some (.int (kq_z (decide (v ax < kP ∧ v ay < kP ∧ v ay * v ay % kP = kc_sq (v ax))))) ∧ ∃ w : Nat → Nat, kr_W E w H1 ∧ ∀ q, ¬ kr_fr h hc q → w q = v q)) 0 0 (kr_fr h hc) := by
  refine Met.ofW (cc := b_Cu_holds) (maxL := 3) (ret := (some .boolean)) (by decide) rfl ?_
  intro p e s m args below meth c s₁ B0 hml hv
  obtain ⟨rfl, hH, hC⟩ := hv
  have hx := B0.exec
  have hb := B0.bytes
  have hret := B0.returns
  have hts := atoms_spec (ws := w_Cu_holds) B0.pre
  have hown : s.vm.findClass R_Cu = some m.cls := findClass_of_methodNamed B0.named
  have hlocks := B0.notSynchronized
  rw [hH]
  have hl := lv_entry ([.ref hc, .ref ax, .ref ay]) (n := 3) (Nat.le_of_ble_eq_true rfl)
  rw [lg_entry_eq]
  generalize (lg_sl ([.ref hc, .ref ax, .ref ay]) ++ List.replicate (3 - (lg_sl ([.ref hc, .ref ax, .ref ay])).length) Slot.unset).toArray = ls at hl ⊢
  have hl : lv_has ls 3 [(0, .ref hc), (1, .ref ax), (2, .ref ay)] := hl
  have hB := hC.1
  have hT := kr_T hE hB
  have hK := hB.1
  have hhc := hV.2.2.2
  have hlc0 : ∀ q ∈ ([] : List Loc), kr_fr h hc q.base := fun q h => by cases h
  have hO := kr_obj hW hV.1 hV.2.1
  have h7 := hV.2.2.1 7 (by decide) (by decide)
  have h11 := hV.2.2.1 11 (by decide) (by decide)
  have hsx := kr_src hE hW hB (Or.inl hax)
  have hlx := kr_lt hE hW (Or.inl hax)
  have hsy := kr_src hE hW hB (Or.inl hay)
  have hly := kr_lt hE hW (Or.inl hay)
  have hsf := kr_src hE hW hB (Or.inr hA.1.1)
  have hlf := kr_lt hE hW (Or.inr hA.1.1)
  rw [kr_cst hW hA.1] at hsf hlf
  refine lv_aload_n hx hb d_Cu_holds_0 rfl (lv_at hl 1 rfl) ?_
  refine kq_getsN hx hb (kr_zat hW hC.2.2.1) hown hC.2.1.2.2.1 d_Cu_holds_1 ?_
  refine kq_call (va_runS (As := [.ref ax, .ref (A 0)]) (rest := []) ⟨hx, hb, hml, hown, hts⟩ (c_Wo_isBelow l H ax (A 0) (v ax) kP hlx hlf) (va_cwS 2 hts (kt_inS kt_w187 kt_w298 kt_w186 kt_w6) rfl rfl rfl (by decide +kernel) ⟨Nat.le_of_ble_eq_true rfl, Nat.le_of_ble_eq_true rfl⟩) (kq_preS (kq_st_r.both kq_st_r) (⟨hsx, hsf⟩)) rfl rfl hl.1 rfl (lv_room (Nat.le_of_ble_eq_true rfl)) d_Cu_holds_4 ⟨Nat.zero_le _, Nat.zero_le _⟩) (fun v9 H9 L9 hq9 hL9 => ?_)
  obtain ⟨rfl, e9⟩ := hq9
  rw [e9]
  clear e9
  refine W.eq (g2 := F0 m 7 ls [.int (kq_z (decide (v ax < kP)))]) rfl ?_
  have hlc1 := t_lL (free := kr_fr h hc) hlc0 (fun q z => (hL9 q z).elim)
  refine lv_if_eq hx hb d_Cu_holds_7 rfl (fun hc0 => ?_) (fun hc0 => ?_)
  · have hn := kq_z_eq.mp hc0
    refine lv_iconst (v := nI 0) hx hb d_Cu_holds_20 (by decide) ?_
    exact W.zret hx hb hret rfl (fun t ht _ => ⟨_, rfl, by rw [kq_z_f (fun q => hn q.1)], v, by rw [ht]; exact hW, fun _ _ => rfl⟩) hlc1 d_Cu_holds_21
  · have hx0 : v ax < kP := kq_z_ne.mp hc0
    refine lv_aload_n hx hb d_Cu_holds_10 rfl (lv_at hl 2 rfl) ?_
    refine kq_getsN hx hb (kr_zat hW hC.2.2.1) hown hC.2.1.2.2.1 d_Cu_holds_11 ?_
    refine kq_call (va_runS (As := [.ref ay, .ref (A 0)]) (rest := []) ⟨hx, hb, hml, hown, hts⟩ (c_Wo_isBelow l H ay (A 0) (v ay) kP hly hlf) (va_cwS 2 hts (kt_inS kt_w187 kt_w298 kt_w186 kt_w6) rfl rfl rfl (by decide +kernel) ⟨Nat.le_of_ble_eq_true rfl, Nat.le_of_ble_eq_true rfl⟩) (kq_preS (kq_st_r.both kq_st_r) (⟨hsy, hsf⟩)) rfl rfl hl.1 rfl (lv_room (Nat.le_of_ble_eq_true rfl)) d_Cu_holds_14 ⟨Nat.zero_le _, Nat.zero_le _⟩) (fun u2 H2 L2 hq2 hL2 => ?_)
    obtain ⟨rfl, e9⟩ := hq2
    rw [e9]
    clear e9
    refine W.eq (g2 := F0 m 17 ls [.int (kq_z (decide (v ay < kP)))]) rfl ?_
    have hlc2 := t_lL (free := kr_fr h hc) hlc1 (fun q z => (hL2 q z).elim)
    refine lv_if_ne hx hb d_Cu_holds_17 rfl (fun hc1 => ?_) (fun hc1 => ?_)
    · have hy0 : v ay < kP := kq_z_ne.mp hc1
      refine lv_aload_n hx hb d_Cu_holds_22 rfl (lv_at hl 0 rfl) ?_
      refine lv_aload_n hx hb d_Cu_holds_23 rfl (lv_at hl 0 rfl) ?_
      refine kq_get hx hb hts kt_F_Cu hown hK hO rfl 7 (by decide) kt_w106 rfl d_Cu_holds_24 ?_
      refine lv_aload_n hx hb d_Cu_holds_27 rfl (lv_at hl 1 rfl) ?_
      refine kq_call (va_runV (As := [.ref (hc + 7), .ref ax]) (rest := []) ⟨hx, hb, hml, hown, hts⟩ (c_Cu_putSquareOfY l E A h pa ga gw G hc v H hE hA hP hV hW ax hax hxh) (cwV 2 hts (kt_inV kt_w302 kt_w299 kt_w301 kt_s6 kt_w4) rfl rfl rfl (by decide +kernel) ⟨Nat.le_of_ble_eq_true rfl, Nat.le_of_ble_eq_true rfl⟩) (kq_p2V (kr_C_s2 E A) (hC) (kq_recv hC.1.1 hO rfl)) rfl rfl hl.1 rfl (lv_room (Nat.le_of_ble_eq_true rfl)) d_Cu_holds_28 ⟨Nat.zero_le _, Nat.zero_le _⟩) (fun u3 H3 L3 hq3 hL3 => ?_)
      obtain ⟨rfl, w3, hW3, e3, k3⟩ := hq3
      refine W.eq (g2 := F0 m 31 ls []) rfl ?_
      have hlc3 := t_lL (free := kr_fr h hc) hlc2 hL3
      have hO3 := kr_obj hW3 hV.1 hV.2.1
      have hOp3 := kr_obj hW3 hP.1 hP.2.1
      have y3 := k3 ay (by unfold kr_fr; omega)
      refine lv_aload_n hx hb d_Cu_holds_31 rfl (lv_at hl 0 rfl) ?_
      refine kq_get hx hb hts kt_F_Cu hown hK hO3 rfl 0 (by decide) kt_w99 rfl d_Cu_holds_32 ?_
      refine lv_aload_n hx hb d_Cu_holds_35 rfl (lv_at hl 0 rfl) ?_
      refine kq_get hx hb hts kt_F_Cu hown hK hO3 rfl 11 (by decide) kt_w110 rfl d_Cu_holds_36 ?_
      refine lv_aload_n hx hb d_Cu_holds_39 rfl (lv_at hl 2 rfl) ?_
      refine lv_aload_n hx hb d_Cu_holds_40 rfl (lv_at hl 2 rfl) ?_
      refine kq_call (va_runV (As := [.ref (hc + 11), .ref ay, .ref ay]) (rest := []) ⟨hx, hb, hml, hown, hts⟩ (c_Pr_product l E h pa ga gw kP G w3 H3 hE hP hW3 (hc + 11) ay ay h11 (Or.inl hay) (Or.inl hay)) (cwV 3 hts (kt_inV kt_w206 kt_w260 kt_w204 kt_w205 kt_w3) rfl rfl rfl (by decide +kernel) ⟨Nat.le_of_ble_eq_true rfl, Nat.le_of_ble_eq_true rfl⟩) (kq_preV (kr_st E) (hC.1) (kq_recv hC.1.1 hOp3 rfl)) rfl rfl hl.1 rfl (lv_room (Nat.le_of_ble_eq_true rfl)) d_Cu_holds_41 ⟨Nat.zero_le _, Nat.zero_le _⟩) (fun u4 H4 L4 hq4 hL4 => ?_)
      obtain ⟨rfl, w4, hW4, e4, o4⟩ := hq4
      refine W.eq (g2 := F0 m 44 ls []) rfl ?_
      have hlc4 := t_lL (free := kr_fr h hc) hlc3 (fun q z => by rcases hL4 q z with z | z | z <;> (rw [z]; unfold kr_fr; omega))
      have hO4 := kr_obj hW4 hV.1 hV.2.1
      have c4 : w4 (hc + 7) = kc_sq (v ax) := by rw [o4 _ (by omega) (by omega) (by omega), e3]
      rw [y3] at e4
      have hsc := kr_src hE hW4 hB (Or.inl h11)
      have hlc := kr_lt hE hW4 (Or.inl h11)
      have hsq := kr_src hE hW4 hB (Or.inl h7)
      have hlq := kr_lt hE hW4 (Or.inl h7)
      rw [e4] at hsc hlc
      rw [c4] at hsq hlq
      refine lv_aload_n hx hb d_Cu_holds_44 rfl (lv_at hl 0 rfl) ?_
      refine kq_get hx hb hts kt_F_Cu hown hK hO4 rfl 11 (by decide) kt_w110 rfl d_Cu_holds_45 ?_
      refine lv_aload_n hx hb d_Cu_holds_48 rfl (lv_at hl 0 rfl) ?_
      refine kq_get hx hb hts kt_F_Cu hown hK hO4 rfl 7 (by decide) kt_w106 rfl d_Cu_holds_49 ?_
      refine kq_call (va_runS (As := [.ref (hc + 11), .ref (hc + 7)]) (rest := []) ⟨hx, hb, hml, hown, hts⟩ (c_Wo_areEqual l H4 (hc + 11) (hc + 7) (v ay * v ay % kP) (kc_sq (v ax)) hlc hlq) (va_cwS 2 hts (kt_inS kt_w263 kt_w261 kt_w262 kt_w6) rfl rfl rfl (by decide +kernel) ⟨Nat.le_of_ble_eq_true rfl, Nat.le_of_ble_eq_true rfl⟩) (kq_preS (kq_st_r.both kq_st_r) (⟨hsc, hsq⟩)) rfl rfl hl.1 rfl (lv_room (Nat.le_of_ble_eq_true rfl)) d_Cu_holds_52 ⟨Nat.zero_le _, Nat.zero_le _⟩) (fun u5 H5 L5 hq5 hL5 => ?_)
      obtain ⟨rfl, e9⟩ := hq5
      rw [e9]
      clear e9
      refine W.eq (g2 := F0 m 55 ls [.int (kq_z (decide (v ay * v ay % kP = kc_sq (v ax))))]) rfl ?_
      refine W.zret hx hb hret (by unfold kq_z; split <;> rfl) (fun t ht _ => ⟨_, rfl, ?_, w4, by rw [ht]; exact hW4, fun q hq => ?_⟩) (t_lL (free := kr_fr h hc) hlc4 (fun q z => (hL5 q z).elim)) d_Cu_holds_55
      · by_cases hz : v ay * v ay % kP = kc_sq (v ax)
        · rw [kq_z_t hz, kq_z_t ⟨hx0, hy0, hz⟩]
        · rw [kq_z_f hz, kq_z_f (fun q => hz q.2.2)]
      · have hq1 := hq
        unfold kr_fr at hq1
        rw [o4 q (by omega) (by omega) (by omega)]
        exact k3 q hq
    · have hn := kq_z_eq.mp hc1
      refine lv_iconst (v := nI 0) hx hb d_Cu_holds_20 (by decide) ?_
      exact W.zret hx hb hret rfl (fun t ht _ => ⟨_, rfl, by rw [kq_z_f (fun q => hn q.2.1)], v, by rw [ht]; exact hW, fun _ _ => rfl⟩) hlc2 d_Cu_holds_21
