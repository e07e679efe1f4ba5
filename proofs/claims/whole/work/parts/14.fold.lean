/-! KeyCurve$Prime: takeHigh, fold (own rows). -/
theorem kw_d_shift (V j : Nat) : kw_d (V / kw_M 8) j = kw_d V (8 + j) := by
  unfold kw_d
  rw [Nat.div_div_eq_div_mul, ← kw_M_add]
theorem kw_d_null (j : Nat) : kw_d 0 j = 0 := by
  unfold kw_d
  rw [Nat.zero_div]
theorem kw_div_lt {V : Nat} (h : V < kw_M 16) : V / kw_M 8 < kw_M 8 := Nat.div_lt_of_lt_mul (by rw [← kw_M_16]; exact h)
theorem kr_wide {E : kr_E} {h pa ga gw mm G : Nat} {v : Nat → Nat} {H : Heap} (hP : kr_P E h pa ga gw mm G) (hW : kr_W E v H) : H[h + 1]? = some (kq_L (kr_c E) 16 (v (h + 1))) ∧ v (h + 1) < kw_M 16 := by
  have hwd := hP.2.2.2.2.2.2.2.2.1
  have q := hW.2.1 (h + 1) hwd.1
  have q2 := hW.2.2.2.1 (h + 1) hwd.1
  rw [hwd.2] at q q2
  exact ⟨q, q2⟩
theorem d_Pr_takeHigh_0 : decode b_Pr_takeHigh 0 = .ok (.lconst 0, 1) := by decide +kernel
theorem d_Pr_takeHigh_1 : decode b_Pr_takeHigh 1 = .ok (.lstore_n 1, 1) := by decide +kernel
theorem d_Pr_takeHigh_2 : decode b_Pr_takeHigh 2 = .ok (.iconst 0, 1) := by decide +kernel
theorem d_Pr_takeHigh_3 : decode b_Pr_takeHigh 3 = .ok (.istore_n 3, 1) := by decide +kernel
theorem d_Pr_takeHigh_4 : decode b_Pr_takeHigh 4 = .ok (.iload_n 3, 1) := by decide +kernel
theorem d_Pr_takeHigh_5 : decode b_Pr_takeHigh 5 = .ok (.bipush 8, 2) := by decide +kernel
theorem d_Pr_takeHigh_7 : decode b_Pr_takeHigh 7 = .ok (.if_icmp .ge 43, 3) := by decide +kernel
theorem d_Pr_takeHigh_10 : decode b_Pr_takeHigh 10 = .ok (.aload_n 0, 1) := by decide +kernel
theorem d_Pr_takeHigh_11 : decode b_Pr_takeHigh 11 = .ok (.getfield 15, 3) := by decide +kernel
theorem d_Pr_takeHigh_14 : decode b_Pr_takeHigh 14 = .ok (.iload_n 3, 1) := by decide +kernel
theorem d_Pr_takeHigh_15 : decode b_Pr_takeHigh 15 = .ok (.aload_n 0, 1) := by decide +kernel
theorem d_Pr_takeHigh_16 : decode b_Pr_takeHigh 16 = .ok (.getfield 9, 3) := by decide +kernel
theorem d_Pr_takeHigh_19 : decode b_Pr_takeHigh 19 = .ok (.bipush 8, 2) := by decide +kernel
theorem d_Pr_takeHigh_21 : decode b_Pr_takeHigh 21 = .ok (.iload_n 3, 1) := by decide +kernel
theorem d_Pr_takeHigh_22 : decode b_Pr_takeHigh 22 = .ok (.iadd, 1) := by decide +kernel
theorem d_Pr_takeHigh_23 : decode b_Pr_takeHigh 23 = .ok (.laload, 1) := by decide +kernel
theorem d_Pr_takeHigh_24 : decode b_Pr_takeHigh 24 = .ok (.lastore, 1) := by decide +kernel
theorem d_Pr_takeHigh_25 : decode b_Pr_takeHigh 25 = .ok (.aload_n 0, 1) := by decide +kernel
theorem d_Pr_takeHigh_26 : decode b_Pr_takeHigh 26 = .ok (.getfield 9, 3) := by decide +kernel
theorem d_Pr_takeHigh_29 : decode b_Pr_takeHigh 29 = .ok (.bipush 8, 2) := by decide +kernel
theorem d_Pr_takeHigh_31 : decode b_Pr_takeHigh 31 = .ok (.iload_n 3, 1) := by decide +kernel
theorem d_Pr_takeHigh_32 : decode b_Pr_takeHigh 32 = .ok (.iadd, 1) := by decide +kernel
theorem d_Pr_takeHigh_33 : decode b_Pr_takeHigh 33 = .ok (.lconst 0, 1) := by decide +kernel
theorem d_Pr_takeHigh_34 : decode b_Pr_takeHigh 34 = .ok (.lastore, 1) := by decide +kernel
theorem d_Pr_takeHigh_35 : decode b_Pr_takeHigh 35 = .ok (.lload_n 1, 1) := by decide +kernel
theorem d_Pr_takeHigh_36 : decode b_Pr_takeHigh 36 = .ok (.aload_n 0, 1) := by decide +kernel
theorem d_Pr_takeHigh_37 : decode b_Pr_takeHigh 37 = .ok (.getfield 15, 3) := by decide +kernel
theorem d_Pr_takeHigh_40 : decode b_Pr_takeHigh 40 = .ok (.iload_n 3, 1) := by decide +kernel
theorem d_Pr_takeHigh_41 : decode b_Pr_takeHigh 41 = .ok (.laload, 1) := by decide +kernel
theorem d_Pr_takeHigh_42 : decode b_Pr_takeHigh 42 = .ok (.lor, 1) := by decide +kernel
theorem d_Pr_takeHigh_43 : decode b_Pr_takeHigh 43 = .ok (.lstore_n 1, 1) := by decide +kernel
theorem d_Pr_takeHigh_44 : decode b_Pr_takeHigh 44 = .ok (.iinc 3 1, 3) := by decide +kernel
theorem d_Pr_takeHigh_47 : decode b_Pr_takeHigh 47 = .ok (.goto (-43), 3) := by decide +kernel
theorem d_Pr_takeHigh_50 : decode b_Pr_takeHigh 50 = .ok (.lload_n 1, 1) := by decide +kernel
theorem d_Pr_takeHigh_51 : decode b_Pr_takeHigh 51 = .ok (.lconst 0, 1) := by decide +kernel
theorem d_Pr_takeHigh_52 : decode b_Pr_takeHigh 52 = .ok (.lcmp, 1) := by decide +kernel
theorem d_Pr_takeHigh_53 : decode b_Pr_takeHigh 53 = .ok (.ifCond .eq 7, 3) := by decide +kernel
theorem d_Pr_takeHigh_56 : decode b_Pr_takeHigh 56 = .ok (.iconst 1, 1) := by decide +kernel
theorem d_Pr_takeHigh_57 : decode b_Pr_takeHigh 57 = .ok (.goto 4, 3) := by decide +kernel
theorem d_Pr_takeHigh_60 : decode b_Pr_takeHigh 60 = .ok (.iconst 0, 1) := by decide +kernel
theorem d_Pr_takeHigh_61 : decode b_Pr_takeHigh 61 = .ok (.ireturn, 1) := by decide +kernel
section
variable {p : Program} {l : Launch} {e : Env} {R : Room} {s : State} {m : MethodId} {args : Array Value} {below : List Frame} {meth : Method} {c : Code} {cells slots : Nat} {Q : State → Prop}
set_option maxHeartbeats 4000000 in
set_option maxRecDepth 100000 in
theorem lp_Pr_takeHigh (hx : p.tables.exec = Jvm.exec) (hb : c.code = b_Pr_takeHigh) (hts : ∀ w ∈ w_Pr_takeHigh, w.before args s = true) (hown : s.vm.findClass R_Pr = some m.cls) {E : kr_E} {h pa ga gw mm G : Nat} (hE : kr_ok E) (hP : kr_P E h pa ga gw mm G) (hB : kr_B E s) {v : Nat → Nat} {V0 : Nat}
    (kk : ∀ (w : Nat → Nat) (H : Heap) (z : Nat) (ls : Array Slot) (locs : List Loc), kr_W E w H → (∀ j, j < 16 → kw_d (w (h + 1)) j = if 8 ≤ j then 0 else kw_d V0 j) → (∀ j, j < 8 → kw_d (w (h + 2)) j = kw_d V0 (8 + j)) → z < 4294967296 → (z = 0 ↔ ∀ j, j < 8 → kw_d V0 (8 + j) = 0) → (∀ q, q ≠ h + 1 → q ≠ h + 2 → w q = v q) → (∀ q ∈ locs, q.base = h + 1 ∨ q.base = h + 2) → lv_has ls 4 [(1, .long (lN z))] → W p l e R s m args below meth c H locs cells slots Q (F0 m 50 ls [])) :
    ∀ (n i : Nat) (w : Nat → Nat) (H : Heap) (z : Nat) (ls : Array Slot) (locs : List Loc), i + n = 8 → kr_W E w H → (∀ j, j < 16 → kw_d (w (h + 1)) j = if 8 ≤ j ∧ j < 8 + i then 0 else kw_d V0 j) → (∀ j, j < i → kw_d (w (h + 2)) j = kw_d V0 (8 + j)) → z < 4294967296 → (z = 0 ↔ ∀ j, j < i → kw_d V0 (8 + j) = 0) → (∀ q, q ≠ h + 1 → q ≠ h + 2 → w q = v q) → (∀ q ∈ locs, q.base = h + 1 ∨ q.base = h + 2) → lv_has ls 4 [(3, .int (nI i)), (1, .long (lN z)), (0, .ref h)] → W p l e R s m args below meth c H locs cells slots Q (F0 m 4 ls []) := by
  intro n
  induction n with
  | zero =>
    intro i w H z ls locs hn hW h1 h2 hz hz0 ho hlc hl
    obtain rfl : i = 8 := by omega
    refine lv_iload_n hx hb d_Pr_takeHigh_4 rfl (lv_at hl 0 rfl) ?_
    refine lv_bipush (v := nI 8) hx hb d_Pr_takeHigh_5 (by decide) ?_
    refine lv_icmp_ge hx hb d_Pr_takeHigh_7 rfl (fun hc => ?_) (fun hc => ?_)
    · refine kk w H z ls locs hW (fun j hj => ?_) h2 hz hz0 ho hlc (lv_sub hl [1] rfl)
      rw [h1 j hj]
      by_cases e : 8 ≤ j
      · rw [if_pos ⟨e, hj⟩, if_pos e]
      · rw [if_neg (fun q => e q.1), if_neg e]
    · exact absurd (nI_le (Nat.le_refl 8) (by decide)) hc
  | succ n ih =>
    intro i w H z ls locs hn hW h1 h2 hz hz0 ho hlc hl
    have hi : i < 8 := by omega
    have hK := hB.1
    have hT := kr_T hE hB
    have hhi := hP.2.2.2.2.2.2.2.2.2.1
    have hwd := hP.2.2.2.2.2.2.2.2.1
    have hO := kr_obj hW hP.1 hP.2.1
    have lX := kw_d_lt (w (h + 1)) (8 + i)
    have hX : kw_d (w (h + 1)) (8 + i) = kw_d V0 (8 + i) := by
      rw [h1 (8 + i) (by omega), if_neg (by omega)]
    obtain ⟨hw1, hw2⟩ := kr_wide hP hW
    have hsw : kq_r s .long H (h + 1) 16 (fun j => .long (lN (kw_d (w (h + 1)) j))) := kq_r.ofV hT hw1
    have hrh := kr_row hW hhi
    have hlh := kr_lt hE hW (Or.inl hhi)
    have hW1 := kr_put hE hW hhi (kw_s_lt hlh hi lX)
    have hO1 := kr_obj hW1 hP.1 hP.2.1
    obtain ⟨hw3, hw4⟩ := kr_wide hP hW1
    rw [kq_up_ne (show h + 1 ≠ h + 2 by omega)] at hw3 hw4
    have hW2 := kr_putn hE hW1 hwd.1 hwd.2 (kw_s_lt hw4 (show 8 + i < 16 by omega) (show 0 < 4294967296 by decide))
    have hO2 := kr_obj hW2 hP.1 hP.2.1
    have hrh2 := kr_src hE hW2 hB (Or.inl hhi)
    rw [kq_up_ne (show h + 2 ≠ h + 1 by omega), kq_up_at] at hrh2
    refine lv_iload_n hx hb d_Pr_takeHigh_4 rfl (lv_at hl 0 rfl) ?_
    refine lv_bipush (v := nI 8) hx hb d_Pr_takeHigh_5 (by decide) ?_
    refine lv_icmp_ge hx hb d_Pr_takeHigh_7 rfl (fun hc => ?_) (fun hc => ?_)
    · exact absurd hc (nI_ge hi (by decide))
    · refine lv_aload_n hx hb d_Pr_takeHigh_10 rfl (lv_at hl 2 rfl) ?_
      refine kq_get hx hb hts kt_F_Pr hown hK hO rfl 5 (by decide) kt_w66 rfl d_Pr_takeHigh_11 ?_
      refine lv_iload_n hx hb d_Pr_takeHigh_14 rfl (lv_at hl 0 rfl) ?_
      refine lv_aload_n hx hb d_Pr_takeHigh_15 rfl (lv_at hl 2 rfl) ?_
      refine kq_get hx hb hts kt_F_Pr hown hK hO rfl 4 (by decide) kt_w65 rfl d_Pr_takeHigh_16 ?_
      refine lv_bipush (v := nI 8) hx hb d_Pr_takeHigh_19 (by decide) ?_
      refine lv_iload_n hx hb d_Pr_takeHigh_21 rfl (lv_at hl 0 rfl) ?_
      refine lv_iadd hx hb d_Pr_takeHigh_22 ?_
      refine kq_ri (show (nI 8) + (nI i) = nI (8 + i) from nI_add _ _) ?_
      refine kq_lald hx hb (hsw) ((by omega)) (by decide) (rfl) d_Pr_takeHigh_23 ?_
      refine kq_last hx hb (hT) (hrh) (hi) (by decide) (lX) d_Pr_takeHigh_24 ?_
      refine lv_aload_n hx hb d_Pr_takeHigh_25 rfl (lv_at hl 2 rfl) ?_
      refine kq_get hx hb hts kt_F_Pr hown hK hO1 rfl 4 (by decide) kt_w65 rfl d_Pr_takeHigh_26 ?_
      refine lv_bipush (v := nI 8) hx hb d_Pr_takeHigh_29 (by decide) ?_
      refine lv_iload_n hx hb d_Pr_takeHigh_31 rfl (lv_at hl 0 rfl) ?_
      refine lv_iadd hx hb d_Pr_takeHigh_32 ?_
      refine kq_ri (show (nI 8) + (nI i) = nI (8 + i) from nI_add _ _) ?_
      refine lv_lconst (v := lN 0) hx hb d_Pr_takeHigh_33 (by decide) ?_
      refine kq_last hx hb (hT) (hw3) ((by omega)) (by decide) ((by decide)) d_Pr_takeHigh_34 ?_
      refine lv_lload_n hx hb d_Pr_takeHigh_35 rfl (lv_at hl 1 rfl) ?_
      refine lv_aload_n hx hb d_Pr_takeHigh_36 rfl (lv_at hl 2 rfl) ?_
      refine kq_get hx hb hts kt_F_Pr hown hK hO2 rfl 5 (by decide) kt_w66 rfl d_Pr_takeHigh_37 ?_
      refine lv_iload_n hx hb d_Pr_takeHigh_40 rfl (lv_at hl 0 rfl) ?_
      refine kq_lald hx hb (hrh2) (hi) (by decide) (rfl) d_Pr_takeHigh_41 ?_
      refine lv_lor hx hb d_Pr_takeHigh_42 ?_
      refine kq_rl (show (lN z) ||| (lN (kw_d (kw_s (w (h + 2)) i (kw_d (w (h + 1)) (8 + i))) i)) = lN (z ||| kw_d V0 (8 + i)) from (by rw [kw_d_ws_same _ _ lX, hX]; exact wb_or (by omega) (by have := kw_d_lt V0 (8 + i); omega))) ?_
      refine lv_lstore_n hx hb d_Pr_takeHigh_43 rfl hl (by decide) rfl (fun ls hl => ?_)
      have hl : lv_has ls 4 [(1, .long (lN (z ||| kw_d V0 (8 + i)))), (3, .int (nI i)), (0, .ref h)] := hl
      refine lv_iinc (k := 1) (v := nI (i + 1)) hx hb d_Pr_takeHigh_44 hl rfl (kq_inc i) (by decide) rfl (fun ls hl => ?_)
      have hl : lv_has ls 4 [(3, .int (nI (i + 1))), (1, .long (lN (z ||| kw_d V0 (8 + i)))), (0, .ref h)] := hl
      refine lv_goto hx hb d_Pr_takeHigh_47 rfl ?_
      refine ih (i + 1) _ _ (z ||| kw_d V0 (8 + i)) ls _ (by omega) hW2 (fun j hj => ?_) (fun j hj => ?_) (Nat.or_lt_two_pow (n := 32) hz (kw_d_lt _ _)) ?_ (fun q q1 q2 => ?_) (t_lc (free := fun q => q = h + 1 ∨ q = h + 2) (t_lc (free := fun q => q = h + 1 ∨ q = h + 2) hlc (Or.inr rfl)) (Or.inl rfl)) (lv_sub hl [0, 1, 2] rfl)
      · rw [kq_up_at]
        by_cases e : j = 8 + i
        · subst e
          rw [kw_d_ws_same _ _ (by decide), if_pos (by omega)]
        · rw [kw_d_ws_ne _ (by decide) e, h1 j hj]
          by_cases e2 : 8 ≤ j ∧ j < 8 + i
          · rw [if_pos e2, if_pos (by omega)]
          · rw [if_neg e2, if_neg (by omega)]
      · rw [kq_up_ne (show h + 2 ≠ h + 1 by omega), kq_up_at]
        by_cases e : j = i
        · subst e
          rw [kw_d_ws_same _ _ lX, hX]
        · rw [kw_d_ws_ne _ lX e]
          exact h2 j (by omega)
      · rw [Nat.or_eq_zero_iff, hz0]
        constructor
        · intro q j hj
          by_cases e : j = i
          · subst e
            exact q.2
          · exact q.1 j (by omega)
        · intro q
          exact ⟨fun j hj => q j (by omega), q i (by omega)⟩
      · rw [kq_up_ne q1, kq_up_ne q2]
        exact ho q q1 q2
end
set_option maxHeartbeats 4000000 in
set_option maxRecDepth 100000 in
theorem c_Pr_takeHigh (l : Launch) (E : kr_E) (h pa ga gw mm G : Nat) (v : Nat → Nat) (H : Heap) (hE : kr_ok E) (hP : kr_P E h pa ga gw mm G) (hW : kr_W E v H) : Met l y_Pr_takeHigh w_Pr_takeHigh ({ frames := 0, cells := 0, slots := 0, locals := 0 }) (kq_P [.ref h] H (kr_B E)) (kq_Q (fun o H1 => o = some (.int (kq_z (decide (¬ v (h + 1) / kw_M 8 = 0)))) ∧ ∃ w : Nat → Nat, kr_W E w H1 ∧ w (h + 1) = v (h + 1) % kw_M 8 ∧ w (h + 2) = v (h + 1) / kw_M 8 ∧ ∀ q, q ≠ h + 1 → q ≠ h + 2 → w q = v q)) 0 0 (fun q => q = h + 1 ∨ q = h + 2) := by
  refine Met.ofW (cc := b_Pr_takeHigh) (maxL := 4) (ret := (some .boolean)) (by decide) rfl ?_
  intro p e s m args below meth c s₁ B0 hml hv
  obtain ⟨rfl, hH, hB⟩ := hv
  have hx := B0.exec
  have hb := B0.bytes
  have hret := B0.returns
  have hts := atoms_spec (ws := w_Pr_takeHigh) B0.pre
  have hown : s.vm.findClass R_Pr = some m.cls := findClass_of_methodNamed B0.named
  have hlocks := B0.notSynchronized
  rw [hH]
  have hl := lv_entry ([.ref h]) (n := 4) (Nat.le_of_ble_eq_true rfl)
  rw [lg_entry_eq]
  generalize (lg_sl ([.ref h]) ++ List.replicate (4 - (lg_sl ([.ref h])).length) Slot.unset).toArray = ls at hl ⊢
  have hl : lv_has ls 4 [(0, .ref h)] := hl
  obtain ⟨-, hVl⟩ := kr_wide hP hW
  refine lv_lconst (v := lN 0) hx hb d_Pr_takeHigh_0 (by decide) ?_
  refine lv_lstore_n hx hb d_Pr_takeHigh_1 rfl hl (by decide) rfl (fun ls hl => ?_)
  have hl : lv_has ls 4 [(1, .long (lN 0)), (0, .ref h)] := hl
  refine lv_iconst (v := nI 0) hx hb d_Pr_takeHigh_2 (by decide) ?_
  refine lv_istore_n hx hb d_Pr_takeHigh_3 rfl hl (by decide) rfl (fun ls hl => ?_)
  have hl : lv_has ls 4 [(3, .int (nI 0)), (1, .long (lN 0)), (0, .ref h)] := hl
  refine lp_Pr_takeHigh hx hb hts hown hE hP hB (v := v) (V0 := v (h + 1)) (fun w H1 z ls locs hW1 h1 h2 hz hz0 ho hlc hl => ?_) 8 0 v H 0 ls [] rfl hW (fun j hj => by rw [if_neg (by omega)]) (fun j hj => by omega) (by decide) ⟨fun _ j hj => by omega, fun _ => rfl⟩ (fun _ _ _ => rfl) (fun q h => by cases h) (lv_sub hl [0, 1, 2] rfl)
  have e1 : w (h + 1) = v (h + 1) % kw_M 8 := by
    refine kw_d_eq (n := 16) (kr_wide hP hW1).2 (Nat.lt_of_lt_of_le (Nat.mod_lt _ (kw_M_pos 8)) (by decide +kernel)) (fun j hj => ?_)
    rw [h1 j hj]
    by_cases e : 8 ≤ j
    · rw [if_pos e, kw_d_big (Nat.mod_lt _ (kw_M_pos 8)) e]
    · rw [if_neg e, kw_d_mod (by omega)]
  have e2 : w (h + 2) = v (h + 1) / kw_M 8 := by
    refine kw_d_eq (n := 8) (kr_lt hE hW1 (Or.inl hP.2.2.2.2.2.2.2.2.2.1)) (kw_div_lt hVl) (fun j hj => ?_)
    rw [h2 j hj, kw_d_shift]
  have e3 : z = 0 ↔ v (h + 1) / kw_M 8 = 0 := by
    rw [hz0]
    constructor
    · intro q
      exact kw_d_eq (n := 8) (kw_div_lt hVl) (kw_M_pos 8) (fun j hj => by rw [kw_d_shift, q j hj, kw_d_null])
    · intro q j hj
      rw [← kw_d_shift, q, kw_d_null]
  refine lv_lload_n hx hb d_Pr_takeHigh_50 rfl (lv_at hl 0 rfl) ?_
  refine lv_lconst (v := lN 0) hx hb d_Pr_takeHigh_51 (by decide) ?_
  refine W.lcmp hx hb d_Pr_takeHigh_52 ?_
  refine lv_if_eq hx hb d_Pr_takeHigh_53 rfl (fun hc => ?_) (fun hc => ?_)
  · have hn : ¬ ¬ v (h + 1) / kw_M 8 = 0 := fun q => q (e3.mp ((kq_cmp_eq (by omega) (by decide)).mp hc))
    refine lv_iconst (v := nI 0) hx hb d_Pr_takeHigh_60 (by decide) ?_
    exact W.zret hx hb hret rfl (fun t ht _ => ⟨_, rfl, by rw [kq_z_f hn], w, by rw [ht]; exact hW1, e1, e2, ho⟩) hlc d_Pr_takeHigh_61
  · have hp : ¬ v (h + 1) / kw_M 8 = 0 := fun q => hc ((kq_cmp_eq (by omega) (by decide)).mpr (e3.mpr q))
    refine lv_iconst (v := nI 1) hx hb d_Pr_takeHigh_56 (by decide) ?_
    refine lv_goto hx hb d_Pr_takeHigh_57 rfl ?_
    exact W.zret hx hb hret rfl (fun t ht _ => ⟨_, rfl, by rw [kq_z_t hp], w, by rw [ht]; exact hW1, e1, e2, ho⟩) hlc d_Pr_takeHigh_61
theorem d_Pr_fold_0 : decode b_Pr_fold 0 = .ok (.iconst 0, 1) := by decide +kernel
theorem d_Pr_fold_1 : decode b_Pr_fold 1 = .ok (.istore_n 1, 1) := by decide +kernel
theorem d_Pr_fold_2 : decode b_Pr_fold 2 = .ok (.iload_n 1, 1) := by decide +kernel
theorem d_Pr_fold_3 : decode b_Pr_fold 3 = .ok (.bipush 8, 2) := by decide +kernel
theorem d_Pr_fold_5 : decode b_Pr_fold 5 = .ok (.if_icmp .ge 39, 3) := by decide +kernel
theorem d_Pr_fold_8 : decode b_Pr_fold 8 = .ok (.aload_n 0, 1) := by decide +kernel
theorem d_Pr_fold_9 : decode b_Pr_fold 9 = .ok (.getfield 15, 3) := by decide +kernel
theorem d_Pr_fold_12 : decode b_Pr_fold 12 = .ok (.iload_n 1, 1) := by decide +kernel
theorem d_Pr_fold_13 : decode b_Pr_fold 13 = .ok (.laload, 1) := by decide +kernel
theorem d_Pr_fold_14 : decode b_Pr_fold 14 = .ok (.lconst 0, 1) := by decide +kernel
theorem d_Pr_fold_15 : decode b_Pr_fold 15 = .ok (.lcmp, 1) := by decide +kernel
theorem d_Pr_fold_16 : decode b_Pr_fold 16 = .ok (.ifCond .eq 22, 3) := by decide +kernel
theorem d_Pr_fold_19 : decode b_Pr_fold 19 = .ok (.aload_n 0, 1) := by decide +kernel
theorem d_Pr_fold_20 : decode b_Pr_fold 20 = .ok (.aload_n 0, 1) := by decide +kernel
theorem d_Pr_fold_21 : decode b_Pr_fold 21 = .ok (.getfield 15, 3) := by decide +kernel
theorem d_Pr_fold_24 : decode b_Pr_fold 24 = .ok (.iload_n 1, 1) := by decide +kernel
theorem d_Pr_fold_25 : decode b_Pr_fold 25 = .ok (.laload, 1) := by decide +kernel
theorem d_Pr_fold_26 : decode b_Pr_fold 26 = .ok (.aload_n 0, 1) := by decide +kernel
theorem d_Pr_fold_27 : decode b_Pr_fold 27 = .ok (.getfield 30, 3) := by decide +kernel
theorem d_Pr_fold_30 : decode b_Pr_fold 30 = .ok (.aload_n 0, 1) := by decide +kernel
theorem d_Pr_fold_31 : decode b_Pr_fold 31 = .ok (.getfield 33, 3) := by decide +kernel
theorem d_Pr_fold_34 : decode b_Pr_fold 34 = .ok (.iload_n 1, 1) := by decide +kernel
theorem d_Pr_fold_35 : decode b_Pr_fold 35 = .ok (.invokevirtual 60, 3) := by decide +kernel
theorem d_Pr_fold_38 : decode b_Pr_fold 38 = .ok (.iinc 1 1, 3) := by decide +kernel
theorem d_Pr_fold_41 : decode b_Pr_fold 41 = .ok (.goto (-39), 3) := by decide +kernel
theorem d_Pr_fold_44 : decode b_Pr_fold 44 = .ok (.return_, 1) := by decide +kernel
section
variable {p : Program} {l : Launch} {e : Env} {R : Room} {s : State} {m : MethodId} {args : Array Value} {below : List Frame} {meth : Method} {c : Code} {cells slots : Nat} {Q : State → Prop}
set_option maxHeartbeats 4000000 in
set_option maxRecDepth 100000 in
theorem lp_Pr_fold (hx : p.tables.exec = Jvm.exec) (hb : c.code = b_Pr_fold) (hts : ∀ w ∈ w_Pr_fold, w.before args s = true) (hown : s.vm.findClass R_Pr = some m.cls) (hml : c.maxLocals = 2) (hRf : 1 ≤ R.frames) (hRl : 30 ≤ R.locals) {E : kr_E} {h pa ga gw mm G : Nat} (hE : kr_ok E) (hP : kr_P E h pa ga gw mm G) (hB : kr_B E s) {v : Nat → Nat} (hbd : v (h + 1) + v (h + 2) * G < kw_M 16) (hh8 : v (h + 2) < kw_M 8)
    (kk : ∀ (w : Nat → Nat) (H : Heap) (ls : Array Slot) (locs : List Loc), kr_W E w H → w (h + 1) = v (h + 1) + v (h + 2) * G → (∀ q, q ≠ h + 1 → w q = v q) → (∀ q ∈ locs, q.base = h + 1) → W p l e R s m args below meth c H locs 0 0 Q (F0 m 44 ls [])) :
    ∀ (n i : Nat) (w : Nat → Nat) (H : Heap) (ls : Array Slot) (locs : List Loc), i + n = 8 → kr_W E w H → w (h + 1) = v (h + 1) + v (h + 2) % kw_M i * G → (∀ q, q ≠ h + 1 → w q = v q) → (∀ q ∈ locs, q.base = h + 1) → lv_has ls 2 [(1, .int (nI i)), (0, .ref h)] → W p l e R s m args below meth c H locs 0 0 Q (F0 m 2 ls []) := by
  intro n
  induction n with
  | zero =>
    intro i w H ls locs hn hW h1 ho hlc hl
    obtain rfl : i = 8 := by omega
    refine lv_iload_n hx hb d_Pr_fold_2 rfl (lv_at hl 0 rfl) ?_
    refine lv_bipush (v := nI 8) hx hb d_Pr_fold_3 (by decide) ?_
    refine lv_icmp_ge hx hb d_Pr_fold_5 rfl (fun hc => ?_) (fun hc => ?_)
    · rw [Nat.mod_eq_of_lt hh8] at h1
      exact kk w H ls locs hW h1 ho hlc
    · exact absurd (nI_le (Nat.le_refl 8) (by decide)) hc
  | succ n ih =>
    intro i w H ls locs hn hW h1 ho hlc hl
    have hi : i < 8 := by omega
    have hK := hB.1
    have hT := kr_T hE hB
    have hhi := hP.2.2.2.2.2.2.2.2.2.1
    have hO := kr_obj hW hP.1 hP.2.1
    have hsh := kr_src hE hW hB (Or.inl hhi)
    rw [ho (h + 2) (by omega)] at hsh
    have lX := kw_d_lt (v (h + 2)) i
    have hgw := hP.2.2.2.2.2.2.1
    have hvg := hP.gap hW
    have hstep : v (h + 2) % kw_M (i + 1) * G = v (h + 2) % kw_M i * G + kw_d (v (h + 2)) i * G * kw_M i := by
      rw [kw_d_lo, Nat.add_mul, Nat.mul_comm (kw_M i), Nat.mul_assoc, Nat.mul_comm (kw_M i) G, ← Nat.mul_assoc]
    have hle : v (h + 2) % kw_M (i + 1) * G ≤ v (h + 2) * G := Nat.mul_le_mul (Nat.mod_le _ _) (Nat.le_refl G)
    have hTl : w (h + 1) + kw_d (v (h + 2)) i * (w ga % kw_M gw) * kw_M i < kw_M 16 := by
      rw [h1, hvg, Nat.mod_eq_of_lt hgw.1]
      omega
    refine lv_iload_n hx hb d_Pr_fold_2 rfl (lv_at hl 0 rfl) ?_
    refine lv_bipush (v := nI 8) hx hb d_Pr_fold_3 (by decide) ?_
    refine lv_icmp_ge hx hb d_Pr_fold_5 rfl (fun hc => ?_) (fun hc => ?_)
    · exact absurd hc (nI_ge hi (by decide))
    · refine lv_aload_n hx hb d_Pr_fold_8 rfl (lv_at hl 1 rfl) ?_
      refine kq_get hx hb hts kt_F_Pr hown hK hO rfl 5 (by decide) kt_w66 rfl d_Pr_fold_9 ?_
      refine lv_iload_n hx hb d_Pr_fold_12 rfl (lv_at hl 0 rfl) ?_
      refine kq_lald hx hb (hsh) (hi) (by decide) (rfl) d_Pr_fold_13 ?_
      refine lv_lconst (v := lN 0) hx hb d_Pr_fold_14 (by decide) ?_
      refine W.lcmp hx hb d_Pr_fold_15 ?_
      refine lv_if_eq hx hb d_Pr_fold_16 rfl (fun hc0 => ?_) (fun hc0 => ?_)
      · have h0 : kw_d (v (h + 2)) i = 0 := (kq_cmp_eq (by omega) (by decide)).mp hc0
        refine lv_iinc (k := 0) (v := nI (i + 1)) hx hb d_Pr_fold_38 hl rfl (kq_inc i) (by decide) rfl (fun ls hl => ?_)
        have hl : lv_has ls 2 [(1, .int (nI (i + 1))), (0, .ref h)] := hl
        refine lv_goto hx hb d_Pr_fold_41 rfl ?_
        refine ih (i + 1) w H ls locs (by omega) hW ?_ ho hlc (lv_sub hl [0, 1] rfl)
        rw [h1, hstep, h0, Nat.zero_mul, Nat.zero_mul]
        omega
      · refine lv_aload_n hx hb d_Pr_fold_19 rfl (lv_at hl 1 rfl) ?_
        refine lv_aload_n hx hb d_Pr_fold_20 rfl (lv_at hl 1 rfl) ?_
        refine kq_get hx hb hts kt_F_Pr hown hK hO rfl 5 (by decide) kt_w66 rfl d_Pr_fold_21 ?_
        refine lv_iload_n hx hb d_Pr_fold_24 rfl (lv_at hl 0 rfl) ?_
        refine kq_lald hx hb (hsh) (hi) (by decide) (rfl) d_Pr_fold_25 ?_
        refine lv_aload_n hx hb d_Pr_fold_26 rfl (lv_at hl 1 rfl) ?_
        refine kq_get hx hb hts kt_F_Pr hown hK hO rfl 1 (by decide) kt_w62 rfl d_Pr_fold_27 ?_
        refine lv_aload_n hx hb d_Pr_fold_30 rfl (lv_at hl 1 rfl) ?_
        refine kq_get hx hb hts kt_F_Pr hown hK hO rfl 2 (by decide) kt_w63 rfl d_Pr_fold_31 ?_
        refine lv_iload_n hx hb d_Pr_fold_34 rfl (lv_at hl 0 rfl) ?_
        refine kq_call (va_runV (As := [.long (lN (kw_d (v (h + 2)) i)), .ref ga, .int (nI gw), .int (nI i)]) (rest := []) ⟨hx, hb, hml, hown, hts⟩ (c_Pr_addRow l E h pa ga gw mm G w H hE hP hW ga (kw_d (v (h + 2)) i) i gw (Or.inr hP.2.2.2.1.1) lX hgw.2 (by omega) hTl) (cwV 4 hts (kt_inV kt_w210 kt_w207 kt_w209 kt_s2 kt_w3) rfl rfl rfl (by decide +kernel) ⟨Nat.le_trans (Nat.le_of_ble_eq_true rfl) hRf, Nat.le_trans (Nat.le_of_ble_eq_true rfl) hRl⟩) (kq_preV (kr_st E) (hB) (kq_recv hB.1 hO rfl)) rfl rfl hl.1 rfl (lv_room (Nat.le_of_ble_eq_true rfl)) d_Pr_fold_35 ⟨Nat.zero_le _, Nat.zero_le _⟩) (fun v9 H9 L9 hq9 hL9 => ?_)
        obtain ⟨rfl, hW9⟩ := hq9
        refine W.eq (g2 := F0 m 38 ls []) rfl ?_
        refine lv_iinc (k := 0) (v := nI (i + 1)) hx hb d_Pr_fold_38 hl rfl (kq_inc i) (by decide) rfl (fun ls hl => ?_)
        have hl : lv_has ls 2 [(1, .int (nI (i + 1))), (0, .ref h)] := hl
        refine lv_goto hx hb d_Pr_fold_41 rfl ?_
        refine ih (i + 1) _ H9 ls _ (by omega) hW9 ?_ (fun q hq => by rw [kq_up_ne hq]; exact ho q hq) (t_lL (free := fun q => q = h + 1) hlc hL9) (lv_sub hl [0, 1] rfl)
        rw [kq_up_at, h1, hvg, Nat.mod_eq_of_lt hgw.1, hstep, Nat.add_assoc]
end
set_option maxHeartbeats 4000000 in
set_option maxRecDepth 100000 in
theorem c_Pr_fold (l : Launch) (E : kr_E) (h pa ga gw mm G : Nat) (v : Nat → Nat) (H : Heap) (hE : kr_ok E) (hP : kr_P E h pa ga gw mm G) (hW : kr_W E v H) (hbd : v (h + 1) + v (h + 2) * G < kw_M 16) : Met l y_Pr_fold w_Pr_fold ({ frames := 1, cells := 0, slots := 0, locals := 30 }) (kq_P [.ref h] H (kr_B E)) (kq_Q (fun o H1 => o = none ∧ kr_W E (va_up v (h + 1) (v (h + 1) + v (h + 2) * G)) H1)) 0 0 (fun q => q = h + 1) := by
  refine Met.ofW (cc := b_Pr_fold) (maxL := 2) (ret := none) (by decide) rfl ?_
  intro p e s m args below meth c s₁ B0 hml hv
  obtain ⟨rfl, hH, hB⟩ := hv
  have hx := B0.exec
  have hb := B0.bytes
  have hret := B0.returns
  have hts := atoms_spec (ws := w_Pr_fold) B0.pre
  have hown : s.vm.findClass R_Pr = some m.cls := findClass_of_methodNamed B0.named
  have hlocks := B0.notSynchronized
  rw [hH]
  have hl := lv_entry ([.ref h]) (n := 2) (Nat.le_of_ble_eq_true rfl)
  rw [lg_entry_eq]
  generalize (lg_sl ([.ref h]) ++ List.replicate (2 - (lg_sl ([.ref h])).length) Slot.unset).toArray = ls at hl ⊢
  have hl : lv_has ls 2 [(0, .ref h)] := hl
  refine lv_iconst (v := nI 0) hx hb d_Pr_fold_0 (by decide) ?_
  refine lv_istore_n hx hb d_Pr_fold_1 rfl hl (by decide) rfl (fun ls hl => ?_)
  have hl : lv_has ls 2 [(1, .int (nI 0)), (0, .ref h)] := hl
  refine lp_Pr_fold hx hb hts hown hml (Nat.le_of_ble_eq_true rfl) (Nat.le_of_ble_eq_true rfl) hE hP hB hbd (kr_lt hE hW (Or.inl hP.2.2.2.2.2.2.2.2.2.1)) (fun w H1 ls locs hW1 h1 ho hlc => ?_) 8 0 v H ls [] rfl hW (by rw [kw_M_0, Nat.mod_one, Nat.zero_mul]; omega) (fun _ _ => rfl) (fun q h => by cases h) (lv_sub hl [0, 1] rfl)
  refine W.vret hx hb hret (fun t ht _ => ⟨_, rfl, rfl, ?_⟩) hlc d_Pr_fold_44
  rw [ht]
  refine kr_same (fun q => ?_) hW1
  by_cases e : q = h + 1
  · subst e
    rw [kq_up_at, h1]
  · rw [kq_up_ne e]
    exact ho q e
