/-! KeyCurve$Words: the contracts (own rows). -/
theorem d_Wo_sumInto_0 : decode b_Wo_sumInto 0 = .ok (.lconst 0, 1) := by decide +kernel
theorem d_Wo_sumInto_1 : decode b_Wo_sumInto 1 = .ok (.lstore_n 3, 1) := by decide +kernel
theorem d_Wo_sumInto_2 : decode b_Wo_sumInto 2 = .ok (.iconst 0, 1) := by decide +kernel
theorem d_Wo_sumInto_3 : decode b_Wo_sumInto 3 = .ok (.istore 5, 2) := by decide +kernel
theorem d_Wo_sumInto_5 : decode b_Wo_sumInto 5 = .ok (.iload 5, 2) := by decide +kernel
theorem d_Wo_sumInto_7 : decode b_Wo_sumInto 7 = .ok (.bipush 8, 2) := by decide +kernel
theorem d_Wo_sumInto_9 : decode b_Wo_sumInto 9 = .ok (.if_icmp .ge 38, 3) := by decide +kernel
theorem d_Wo_sumInto_12 : decode b_Wo_sumInto 12 = .ok (.aload_n 1, 1) := by decide +kernel
theorem d_Wo_sumInto_13 : decode b_Wo_sumInto 13 = .ok (.iload 5, 2) := by decide +kernel
theorem d_Wo_sumInto_15 : decode b_Wo_sumInto 15 = .ok (.laload, 1) := by decide +kernel
theorem d_Wo_sumInto_16 : decode b_Wo_sumInto 16 = .ok (.aload_n 2, 1) := by decide +kernel
theorem d_Wo_sumInto_17 : decode b_Wo_sumInto 17 = .ok (.iload 5, 2) := by decide +kernel
theorem d_Wo_sumInto_19 : decode b_Wo_sumInto 19 = .ok (.laload, 1) := by decide +kernel
theorem d_Wo_sumInto_20 : decode b_Wo_sumInto 20 = .ok (.ladd, 1) := by decide +kernel
theorem d_Wo_sumInto_21 : decode b_Wo_sumInto 21 = .ok (.lload_n 3, 1) := by decide +kernel
theorem d_Wo_sumInto_22 : decode b_Wo_sumInto 22 = .ok (.ladd, 1) := by decide +kernel
theorem d_Wo_sumInto_23 : decode b_Wo_sumInto 23 = .ok (.lstore 6, 2) := by decide +kernel
theorem d_Wo_sumInto_25 : decode b_Wo_sumInto 25 = .ok (.aload_n 0, 1) := by decide +kernel
theorem d_Wo_sumInto_26 : decode b_Wo_sumInto 26 = .ok (.iload 5, 2) := by decide +kernel
theorem d_Wo_sumInto_28 : decode b_Wo_sumInto 28 = .ok (.lload 6, 2) := by decide +kernel
theorem d_Wo_sumInto_30 : decode b_Wo_sumInto 30 = .ok (.ldc2_w 15, 3) := by decide +kernel
theorem d_Wo_sumInto_33 : decode b_Wo_sumInto 33 = .ok (.land, 1) := by decide +kernel
theorem d_Wo_sumInto_34 : decode b_Wo_sumInto 34 = .ok (.lastore, 1) := by decide +kernel
theorem d_Wo_sumInto_35 : decode b_Wo_sumInto 35 = .ok (.lload 6, 2) := by decide +kernel
theorem d_Wo_sumInto_37 : decode b_Wo_sumInto 37 = .ok (.bipush 32, 2) := by decide +kernel
theorem d_Wo_sumInto_39 : decode b_Wo_sumInto 39 = .ok (.lushr, 1) := by decide +kernel
theorem d_Wo_sumInto_40 : decode b_Wo_sumInto 40 = .ok (.lstore_n 3, 1) := by decide +kernel
theorem d_Wo_sumInto_41 : decode b_Wo_sumInto 41 = .ok (.iinc 5 1, 3) := by decide +kernel
theorem d_Wo_sumInto_44 : decode b_Wo_sumInto 44 = .ok (.goto (-39), 3) := by decide +kernel
theorem d_Wo_sumInto_47 : decode b_Wo_sumInto 47 = .ok (.lload_n 3, 1) := by decide +kernel
theorem d_Wo_sumInto_48 : decode b_Wo_sumInto 48 = .ok (.lreturn, 1) := by decide +kernel
section
variable {p : Program} {l : Launch} {e : Env} {R : Room} {s : State} {m : MethodId} {args : Array Value} {below : List Frame} {meth : Method} {c : Code} {cells slots : Nat} {Q : State → Prop}
set_option maxHeartbeats 4000000 in
set_option maxRecDepth 100000 in
theorem lp_Wo_sumInto (hx : p.tables.exec = Jvm.exec) (hb : c.code = b_Wo_sumInto) (hts : ∀ w ∈ w_Wo_sumInto, w.before args s = true) (hown : s.vm.findClass R_Wo = some m.cls) {cL : ClassId} {H : Heap} {r a b R0 A B : Nat} (hT : ArrOfT s cL .long) (hsa : kq_sL s H a 8 A) (hsb : kq_sL s H b 8 B) (hr : H[r]? = some (kq_L cL 8 R0)) (hB : B < kw_M 8)
    (kk : ∀ (ls : Array Slot) (locs : List Loc), (∀ q ∈ locs, q.base = r) → lv_has ls 8 [(3, .long (lN (kw_c A B 8)))] → W p l e R s m args below meth c (kq_set H r (kq_L cL 8 ((A + B) % kw_M 8))) locs cells slots Q (F0 m 47 ls [])) :
    ∀ (n i V : Nat) (ls : Array Slot) (locs : List Loc), i + n = 8 → V < kw_M 8 → V % kw_M i = (A + B) % kw_M i → (∀ j, i ≤ j → j < 8 → kw_d V j = kw_d R0 j) → (∀ q ∈ locs, q.base = r) → lv_has ls 8 [(5, .int (nI i)), (3, .long (lN (kw_c A B i))), (0, .ref r), (1, .ref a), (2, .ref b)] → W p l e R s m args below meth c (kq_set H r (kq_L cL 8 V)) locs cells slots Q (F0 m 5 ls []) := by
  intro n
  induction n with
  | zero =>
    intro i V ls locs hn hV hlo hhi hlc hl
    obtain rfl : i = 8 := by omega
    refine lv_iload hx hb d_Wo_sumInto_5 (lv_at hl 0 rfl) ?_
    refine lv_bipush (v := nI 8) hx hb d_Wo_sumInto_7 (by decide) ?_
    refine lv_icmp_ge hx hb d_Wo_sumInto_9 rfl (fun hc => ?_) (fun hc => ?_)
    · have e : V = (A + B) % kw_M 8 := by
        rw [Nat.mod_eq_of_lt hV] at hlo
        exact hlo
      rw [e]
      exact kk ls locs hlc (lv_sub hl [1] rfl)
    · exact absurd (nI_le (Nat.le_refl 8) (by decide)) hc
  | succ n ih =>
    intro i V ls locs hn hV hlo hhi hlc hl
    have hi : i < 8 := by omega
    obtain ⟨fa, ha1, ha2⟩ := kq_mixL hsa hT hr hhi hi
    obtain ⟨fb, hb1, hb2⟩ := kq_mixL hsb hT hr hhi hi
    have lA := kw_d_lt A i
    have lB := kw_d_lt B i
    have lC := kw_c_le A B i
    obtain ⟨st1, st2⟩ := kw_c_step A B i
    refine lv_iload hx hb d_Wo_sumInto_5 (lv_at hl 0 rfl) ?_
    refine lv_bipush (v := nI 8) hx hb d_Wo_sumInto_7 (by decide) ?_
    refine lv_icmp_ge hx hb d_Wo_sumInto_9 rfl (fun hc => ?_) (fun hc => ?_)
    · exact absurd hc (nI_ge hi (by decide))
    · refine lv_aload_n hx hb d_Wo_sumInto_12 rfl (lv_at hl 3 rfl) ?_
      refine lv_iload hx hb d_Wo_sumInto_13 (lv_at hl 0 rfl) ?_
      refine kq_lald hx hb (ha1) (hi) (by decide) (ha2) d_Wo_sumInto_15 ?_
      refine lv_aload_n hx hb d_Wo_sumInto_16 rfl (lv_at hl 4 rfl) ?_
      refine lv_iload hx hb d_Wo_sumInto_17 (lv_at hl 0 rfl) ?_
      refine kq_lald hx hb (hb1) (hi) (by decide) (hb2) d_Wo_sumInto_19 ?_
      refine lv_ladd hx hb d_Wo_sumInto_20 ?_
      refine kq_rl (show (lN (kw_d A i)) + (lN (kw_d B i)) = lN (kw_d A i + kw_d B i) from lN_add _ _) ?_
      refine lv_lload_n hx hb d_Wo_sumInto_21 rfl (lv_at hl 1 rfl) ?_
      refine lv_ladd hx hb d_Wo_sumInto_22 ?_
      refine kq_rl (show (lN (kw_d A i + kw_d B i)) + (lN (kw_c A B i)) = lN (kw_d A i + kw_d B i + kw_c A B i) from lN_add _ _) ?_
      refine lv_lstore hx hb d_Wo_sumInto_23 hl (by decide) rfl (fun ls hl => ?_)
      have hl : lv_has ls 8 [(6, .long (lN (kw_d A i + kw_d B i + kw_c A B i))), (5, .int (nI i)), (3, .long (lN (kw_c A B i))), (0, .ref r), (1, .ref a), (2, .ref b)] := hl
      refine lv_aload_n hx hb d_Wo_sumInto_25 rfl (lv_at hl 3 rfl) ?_
      refine lv_iload hx hb d_Wo_sumInto_26 (lv_at hl 1 rfl) ?_
      refine lv_lload hx hb d_Wo_sumInto_28 (lv_at hl 0 rfl) ?_
      refine lv_ldc2 hx hb hown (v := lN 4294967295) (hts _ (List.mem_cons_of_mem _ kt_w180)) d_Wo_sumInto_30 ?_
      refine lv_land hx hb d_Wo_sumInto_33 ?_
      refine kq_rl (show (lN (kw_d A i + kw_d B i + kw_c A B i)) &&& (lN 4294967295) = lN (kw_d (A + B) i) from (by rw [kq_mask, st2])) ?_
      refine kq_last hx hb (hT) (kq_set_at hr) (hi) (by decide) (kw_d_lt _ _) d_Wo_sumInto_34 ?_
      refine kq_rH (kq_set_set _ _ _ _) ?_
      refine lv_lload hx hb d_Wo_sumInto_35 (lv_at hl 0 rfl) ?_
      refine lv_bipush (v := nI 32) hx hb d_Wo_sumInto_37 (by decide) ?_
      refine lv_lushr (v := lN (kw_c A B (i + 1))) hx hb d_Wo_sumInto_39 (by rw [kq_ushr32 (by omega), st1]) ?_
      refine lv_lstore_n hx hb d_Wo_sumInto_40 rfl hl (by decide) rfl (fun ls hl => ?_)
      have hl : lv_has ls 8 [(3, .long (lN (kw_c A B (i + 1)))), (6, .long (lN (kw_d A i + kw_d B i + kw_c A B i))), (5, .int (nI i)), (0, .ref r), (1, .ref a), (2, .ref b)] := hl
      refine lv_iinc (k := 2) (v := nI (i + 1)) hx hb d_Wo_sumInto_41 hl rfl (kq_inc i) (by decide) rfl (fun ls hl => ?_)
      have hl : lv_has ls 8 [(5, .int (nI (i + 1))), (3, .long (lN (kw_c A B (i + 1)))), (6, .long (lN (kw_d A i + kw_d B i + kw_c A B i))), (0, .ref r), (1, .ref a), (2, .ref b)] := hl
      refine lv_goto hx hb d_Wo_sumInto_44 rfl ?_
      refine ih (i + 1) (kw_s V i (kw_d (A + B) i)) ls _ (by omega) (kw_s_lt hV hi (kw_d_lt _ _)) ?_ (fun j h1 h2 => ?_) (t_lc (free := fun q => q = r) hlc rfl) (lv_sub hl [0, 1, 3, 4, 5] rfl)
      · rw [kw_s_lo _ _ _ (kw_d_lt _ _), hlo, ← kw_d_lo]
      · rw [kw_d_ws_ne _ (kw_d_lt _ _) (by omega)]
        exact hhi j (by omega) h2
end
set_option maxHeartbeats 4000000 in
set_option maxRecDepth 100000 in
theorem c_Wo_sumInto (l : Launch) (cL : ClassId) (H : Heap) (r a b R0 A B : Nat) (hR : R0 < kw_M 8) (hA : A < kw_M 8) (hB : B < kw_M 8) (hr : H[r]? = some (kq_L cL 8 R0)) : Met l y_Wo_sumInto w_Wo_sumInto ({ frames := 0, cells := 0, slots := 0, locals := 0 }) (kq_P [.ref r, .ref a, .ref b] H (fun U => ArrOfT U cL .long ∧ kq_sL U H a 8 A ∧ kq_sL U H b 8 B)) (kq_Q (fun v H1 => v = some (.long (lN ((A + B) / kw_M 8))) ∧ H1 = kq_set H r (kq_L cL 8 ((A + B) % kw_M 8)))) 0 0 (fun q => q = r) := by
  refine Met.ofW (cc := b_Wo_sumInto) (maxL := 8) (ret := (some .long)) (by decide) rfl ?_
  intro p e s m args below meth c s₁ B0 hml hv
  obtain ⟨rfl, hH, hT, hsa, hsb⟩ := hv
  have hx := B0.exec
  have hb := B0.bytes
  have hret := B0.returns
  have hts := atoms_spec (ws := w_Wo_sumInto) B0.pre
  have hown : s.vm.findClass R_Wo = some m.cls := findClass_of_methodNamed B0.named
  have hlocks := B0.notSynchronized
  rw [hH]
  have hl := lv_entry ([.ref r, .ref a, .ref b]) (n := 8) (Nat.le_of_ble_eq_true rfl)
  rw [lg_entry_eq]
  generalize (lg_sl ([.ref r, .ref a, .ref b]) ++ List.replicate (8 - (lg_sl ([.ref r, .ref a, .ref b])).length) Slot.unset).toArray = ls at hl ⊢
  have hl : lv_has ls 8 [(0, .ref r), (1, .ref a), (2, .ref b)] := hl
  refine lv_lconst (v := lN 0) hx hb d_Wo_sumInto_0 (by decide) ?_
  refine lv_lstore_n hx hb d_Wo_sumInto_1 rfl hl (by decide) rfl (fun ls hl => ?_)
  have hl : lv_has ls 8 [(3, .long (lN 0)), (0, .ref r), (1, .ref a), (2, .ref b)] := hl
  refine lv_iconst (v := nI 0) hx hb d_Wo_sumInto_2 (by decide) ?_
  refine lv_istore hx hb d_Wo_sumInto_3 hl (by decide) rfl (fun ls hl => ?_)
  have hl : lv_has ls 8 [(5, .int (nI 0)), (3, .long (lN 0)), (0, .ref r), (1, .ref a), (2, .ref b)] := hl
  refine kq_rH (kq_set_self hr).symm ?_
  refine lp_Wo_sumInto hx hb hts hown hT hsa hsb hr hB (fun ls locs hlc hl => ?_) 8 0 R0 ls [] rfl hR (by rw [kw_M_0, Nat.mod_one, Nat.mod_one]) (fun _ _ _ => rfl) (fun q h => by cases h) ?_
  · refine lv_lload_n hx hb d_Wo_sumInto_47 rfl (lv_at hl 0 rfl) ?_
    exact W.lret hx hb hret (fun t ht _ => ⟨_, rfl, by rw [kw_c_end hA hB], ht⟩) hlc d_Wo_sumInto_48
  · rw [kw_c_0]
    exact lv_sub hl [0, 1, 2, 3, 4] rfl
theorem d_Wo_differenceInto_0 : decode b_Wo_differenceInto 0 = .ok (.lconst 0, 1) := by decide +kernel
theorem d_Wo_differenceInto_1 : decode b_Wo_differenceInto 1 = .ok (.lstore_n 3, 1) := by decide +kernel
theorem d_Wo_differenceInto_2 : decode b_Wo_differenceInto 2 = .ok (.iconst 0, 1) := by decide +kernel
theorem d_Wo_differenceInto_3 : decode b_Wo_differenceInto 3 = .ok (.istore 5, 2) := by decide +kernel
theorem d_Wo_differenceInto_5 : decode b_Wo_differenceInto 5 = .ok (.iload 5, 2) := by decide +kernel
theorem d_Wo_differenceInto_7 : decode b_Wo_differenceInto 7 = .ok (.bipush 8, 2) := by decide +kernel
theorem d_Wo_differenceInto_9 : decode b_Wo_differenceInto 9 = .ok (.if_icmp .ge 38, 3) := by decide +kernel
theorem d_Wo_differenceInto_12 : decode b_Wo_differenceInto 12 = .ok (.aload_n 1, 1) := by decide +kernel
theorem d_Wo_differenceInto_13 : decode b_Wo_differenceInto 13 = .ok (.iload 5, 2) := by decide +kernel
theorem d_Wo_differenceInto_15 : decode b_Wo_differenceInto 15 = .ok (.laload, 1) := by decide +kernel
theorem d_Wo_differenceInto_16 : decode b_Wo_differenceInto 16 = .ok (.aload_n 2, 1) := by decide +kernel
theorem d_Wo_differenceInto_17 : decode b_Wo_differenceInto 17 = .ok (.iload 5, 2) := by decide +kernel
theorem d_Wo_differenceInto_19 : decode b_Wo_differenceInto 19 = .ok (.laload, 1) := by decide +kernel
theorem d_Wo_differenceInto_20 : decode b_Wo_differenceInto 20 = .ok (.lsub, 1) := by decide +kernel
theorem d_Wo_differenceInto_21 : decode b_Wo_differenceInto 21 = .ok (.lload_n 3, 1) := by decide +kernel
theorem d_Wo_differenceInto_22 : decode b_Wo_differenceInto 22 = .ok (.lsub, 1) := by decide +kernel
theorem d_Wo_differenceInto_23 : decode b_Wo_differenceInto 23 = .ok (.lstore 6, 2) := by decide +kernel
theorem d_Wo_differenceInto_25 : decode b_Wo_differenceInto 25 = .ok (.aload_n 0, 1) := by decide +kernel
theorem d_Wo_differenceInto_26 : decode b_Wo_differenceInto 26 = .ok (.iload 5, 2) := by decide +kernel
theorem d_Wo_differenceInto_28 : decode b_Wo_differenceInto 28 = .ok (.lload 6, 2) := by decide +kernel
theorem d_Wo_differenceInto_30 : decode b_Wo_differenceInto 30 = .ok (.ldc2_w 15, 3) := by decide +kernel
theorem d_Wo_differenceInto_33 : decode b_Wo_differenceInto 33 = .ok (.land, 1) := by decide +kernel
theorem d_Wo_differenceInto_34 : decode b_Wo_differenceInto 34 = .ok (.lastore, 1) := by decide +kernel
theorem d_Wo_differenceInto_35 : decode b_Wo_differenceInto 35 = .ok (.lload 6, 2) := by decide +kernel
theorem d_Wo_differenceInto_37 : decode b_Wo_differenceInto 37 = .ok (.bipush 63, 2) := by decide +kernel
theorem d_Wo_differenceInto_39 : decode b_Wo_differenceInto 39 = .ok (.lushr, 1) := by decide +kernel
theorem d_Wo_differenceInto_40 : decode b_Wo_differenceInto 40 = .ok (.lstore_n 3, 1) := by decide +kernel
theorem d_Wo_differenceInto_41 : decode b_Wo_differenceInto 41 = .ok (.iinc 5 1, 3) := by decide +kernel
theorem d_Wo_differenceInto_44 : decode b_Wo_differenceInto 44 = .ok (.goto (-39), 3) := by decide +kernel
theorem d_Wo_differenceInto_47 : decode b_Wo_differenceInto 47 = .ok (.lload_n 3, 1) := by decide +kernel
theorem d_Wo_differenceInto_48 : decode b_Wo_differenceInto 48 = .ok (.lreturn, 1) := by decide +kernel
section
variable {p : Program} {l : Launch} {e : Env} {R : Room} {s : State} {m : MethodId} {args : Array Value} {below : List Frame} {meth : Method} {c : Code} {cells slots : Nat} {Q : State → Prop}
set_option maxHeartbeats 4000000 in
set_option maxRecDepth 100000 in
theorem lp_Wo_differenceInto (hx : p.tables.exec = Jvm.exec) (hb : c.code = b_Wo_differenceInto) (hts : ∀ w ∈ w_Wo_differenceInto, w.before args s = true) (hown : s.vm.findClass R_Wo = some m.cls) {cL : ClassId} {H : Heap} {r a b R0 A B : Nat} (hT : ArrOfT s cL .long) (hsa : kq_sL s H a 8 A) (hsb : kq_sL s H b 8 B) (hr : H[r]? = some (kq_L cL 8 R0)) (hB : B < kw_M 8)
    (kk : ∀ (ls : Array Slot) (locs : List Loc), (∀ q ∈ locs, q.base = r) → lv_has ls 8 [(3, .long (lN (kw_b A B 8)))] → W p l e R s m args below meth c (kq_set H r (kq_L cL 8 (kw_sub A B))) locs cells slots Q (F0 m 47 ls [])) :
    ∀ (n i V : Nat) (ls : Array Slot) (locs : List Loc), i + n = 8 → V < kw_M 8 → V % kw_M i = kw_sub A B % kw_M i → (∀ j, i ≤ j → j < 8 → kw_d V j = kw_d R0 j) → (∀ q ∈ locs, q.base = r) → lv_has ls 8 [(5, .int (nI i)), (3, .long (lN (kw_b A B i))), (0, .ref r), (1, .ref a), (2, .ref b)] → W p l e R s m args below meth c (kq_set H r (kq_L cL 8 V)) locs cells slots Q (F0 m 5 ls []) := by
  intro n
  induction n with
  | zero =>
    intro i V ls locs hn hV hlo hhi hlc hl
    obtain rfl : i = 8 := by omega
    refine lv_iload hx hb d_Wo_differenceInto_5 (lv_at hl 0 rfl) ?_
    refine lv_bipush (v := nI 8) hx hb d_Wo_differenceInto_7 (by decide) ?_
    refine lv_icmp_ge hx hb d_Wo_differenceInto_9 rfl (fun hc => ?_) (fun hc => ?_)
    · have e : V = kw_sub A B := by
        rw [Nat.mod_eq_of_lt hV, Nat.mod_eq_of_lt (kw_sub_lt A B)] at hlo
        exact hlo
      rw [e]
      exact kk ls locs hlc (lv_sub hl [1] rfl)
    · exact absurd (nI_le (Nat.le_refl 8) (by decide)) hc
  | succ n ih =>
    intro i V ls locs hn hV hlo hhi hlc hl
    have hi : i < 8 := by omega
    obtain ⟨fa, ha1, ha2⟩ := kq_mixL hsa hT hr hhi hi
    obtain ⟨fb, hb1, hb2⟩ := kq_mixL hsb hT hr hhi hi
    have lA := kw_d_lt A i
    have lB := kw_d_lt B i
    have lC := kw_b_le A B i
    have st1 := kw_b_step A B i
    have st2 := kw_sub_word (A := A) hB hi
    refine lv_iload hx hb d_Wo_differenceInto_5 (lv_at hl 0 rfl) ?_
    refine lv_bipush (v := nI 8) hx hb d_Wo_differenceInto_7 (by decide) ?_
    refine lv_icmp_ge hx hb d_Wo_differenceInto_9 rfl (fun hc => ?_) (fun hc => ?_)
    · exact absurd hc (nI_ge hi (by decide))
    · refine lv_aload_n hx hb d_Wo_differenceInto_12 rfl (lv_at hl 3 rfl) ?_
      refine lv_iload hx hb d_Wo_differenceInto_13 (lv_at hl 0 rfl) ?_
      refine kq_lald hx hb (ha1) (hi) (by decide) (ha2) d_Wo_differenceInto_15 ?_
      refine lv_aload_n hx hb d_Wo_differenceInto_16 rfl (lv_at hl 4 rfl) ?_
      refine lv_iload hx hb d_Wo_differenceInto_17 (lv_at hl 0 rfl) ?_
      refine kq_lald hx hb (hb1) (hi) (by decide) (hb2) d_Wo_differenceInto_19 ?_
      refine lv_lsub hx hb d_Wo_differenceInto_20 ?_
      refine kq_rl (show (lN (kw_d A i)) - (lN (kw_d B i)) = lN (kw_d A i + 18446744073709551616 - kw_d B i) from kq_lsub (by omega)) ?_
      refine lv_lload_n hx hb d_Wo_differenceInto_21 rfl (lv_at hl 1 rfl) ?_
      refine lv_lsub hx hb d_Wo_differenceInto_22 ?_
      refine kq_rl (show (lN (kw_d A i + 18446744073709551616 - kw_d B i)) - (lN (kw_b A B i)) = lN (kw_d A i + 18446744073709551616 - kw_d B i + 18446744073709551616 - kw_b A B i) from kq_lsub (by omega)) ?_
      refine lv_lstore hx hb d_Wo_differenceInto_23 hl (by decide) rfl (fun ls hl => ?_)
      have hl : lv_has ls 8 [(6, .long (lN (kw_d A i + 18446744073709551616 - kw_d B i + 18446744073709551616 - kw_b A B i))), (5, .int (nI i)), (3, .long (lN (kw_b A B i))), (0, .ref r), (1, .ref a), (2, .ref b)] := hl
      refine lv_aload_n hx hb d_Wo_differenceInto_25 rfl (lv_at hl 3 rfl) ?_
      refine lv_iload hx hb d_Wo_differenceInto_26 (lv_at hl 1 rfl) ?_
      refine lv_lload hx hb d_Wo_differenceInto_28 (lv_at hl 0 rfl) ?_
      refine lv_ldc2 hx hb hown (v := lN 4294967295) (hts _ (List.mem_cons_of_mem _ kt_w180)) d_Wo_differenceInto_30 ?_
      refine lv_land hx hb d_Wo_differenceInto_33 ?_
      refine kq_rl (show (lN (kw_d A i + 18446744073709551616 - kw_d B i + 18446744073709551616 - kw_b A B i)) &&& (lN 4294967295) = lN (kw_d (kw_sub A B) i) from (by rw [kq_mask, ← st2]; congr 1; omega)) ?_
      refine kq_last hx hb (hT) (kq_set_at hr) (hi) (by decide) (kw_d_lt _ _) d_Wo_differenceInto_34 ?_
      refine kq_rH (kq_set_set _ _ _ _) ?_
      refine lv_lload hx hb d_Wo_differenceInto_35 (lv_at hl 0 rfl) ?_
      refine lv_bipush (v := nI 63) hx hb d_Wo_differenceInto_37 (by decide) ?_
      refine lv_lushr (v := lN (kw_b A B (i + 1))) hx hb d_Wo_differenceInto_39 (by rw [wb_mod, kq_ushr63 (Nat.mod_lt _ (by decide)), ← st1]; congr 1; split <;> omega) ?_
      refine lv_lstore_n hx hb d_Wo_differenceInto_40 rfl hl (by decide) rfl (fun ls hl => ?_)
      have hl : lv_has ls 8 [(3, .long (lN (kw_b A B (i + 1)))), (6, .long (lN (kw_d A i + 18446744073709551616 - kw_d B i + 18446744073709551616 - kw_b A B i))), (5, .int (nI i)), (0, .ref r), (1, .ref a), (2, .ref b)] := hl
      refine lv_iinc (k := 2) (v := nI (i + 1)) hx hb d_Wo_differenceInto_41 hl rfl (kq_inc i) (by decide) rfl (fun ls hl => ?_)
      have hl : lv_has ls 8 [(5, .int (nI (i + 1))), (3, .long (lN (kw_b A B (i + 1)))), (6, .long (lN (kw_d A i + 18446744073709551616 - kw_d B i + 18446744073709551616 - kw_b A B i))), (0, .ref r), (1, .ref a), (2, .ref b)] := hl
      refine lv_goto hx hb d_Wo_differenceInto_44 rfl ?_
      refine ih (i + 1) (kw_s V i (kw_d (kw_sub A B) i)) ls _ (by omega) (kw_s_lt hV hi (kw_d_lt _ _)) ?_ (fun j h1 h2 => ?_) (t_lc (free := fun q => q = r) hlc rfl) (lv_sub hl [0, 1, 3, 4, 5] rfl)
      · rw [kw_s_lo _ _ _ (kw_d_lt _ _), hlo, ← kw_d_lo]
      · rw [kw_d_ws_ne _ (kw_d_lt _ _) (by omega)]
        exact hhi j (by omega) h2
end
set_option maxHeartbeats 4000000 in
set_option maxRecDepth 100000 in
theorem c_Wo_differenceInto (l : Launch) (cL : ClassId) (H : Heap) (r a b R0 A B : Nat) (hR : R0 < kw_M 8) (hA : A < kw_M 8) (hB : B < kw_M 8) (hr : H[r]? = some (kq_L cL 8 R0)) : Met l y_Wo_differenceInto w_Wo_differenceInto ({ frames := 0, cells := 0, slots := 0, locals := 0 }) (kq_P [.ref r, .ref a, .ref b] H (fun U => ArrOfT U cL .long ∧ kq_sL U H a 8 A ∧ kq_sL U H b 8 B)) (kq_Q (fun v H1 => v = some (.long (lN (if A < B then 1 else 0))) ∧ H1 = kq_set H r (kq_L cL 8 (kw_sub A B)))) 0 0 (fun q => q = r) := by
  refine Met.ofW (cc := b_Wo_differenceInto) (maxL := 8) (ret := (some .long)) (by decide) rfl ?_
  intro p e s m args below meth c s₁ B0 hml hv
  obtain ⟨rfl, hH, hT, hsa, hsb⟩ := hv
  have hx := B0.exec
  have hb := B0.bytes
  have hret := B0.returns
  have hts := atoms_spec (ws := w_Wo_differenceInto) B0.pre
  have hown : s.vm.findClass R_Wo = some m.cls := findClass_of_methodNamed B0.named
  have hlocks := B0.notSynchronized
  rw [hH]
  have hl := lv_entry ([.ref r, .ref a, .ref b]) (n := 8) (Nat.le_of_ble_eq_true rfl)
  rw [lg_entry_eq]
  generalize (lg_sl ([.ref r, .ref a, .ref b]) ++ List.replicate (8 - (lg_sl ([.ref r, .ref a, .ref b])).length) Slot.unset).toArray = ls at hl ⊢
  have hl : lv_has ls 8 [(0, .ref r), (1, .ref a), (2, .ref b)] := hl
  refine lv_lconst (v := lN 0) hx hb d_Wo_differenceInto_0 (by decide) ?_
  refine lv_lstore_n hx hb d_Wo_differenceInto_1 rfl hl (by decide) rfl (fun ls hl => ?_)
  have hl : lv_has ls 8 [(3, .long (lN 0)), (0, .ref r), (1, .ref a), (2, .ref b)] := hl
  refine lv_iconst (v := nI 0) hx hb d_Wo_differenceInto_2 (by decide) ?_
  refine lv_istore hx hb d_Wo_differenceInto_3 hl (by decide) rfl (fun ls hl => ?_)
  have hl : lv_has ls 8 [(5, .int (nI 0)), (3, .long (lN 0)), (0, .ref r), (1, .ref a), (2, .ref b)] := hl
  refine kq_rH (kq_set_self hr).symm ?_
  refine lp_Wo_differenceInto hx hb hts hown hT hsa hsb hr hB (fun ls locs hlc hl => ?_) 8 0 R0 ls [] rfl hR (by rw [kw_M_0, Nat.mod_one, Nat.mod_one]) (fun _ _ _ => rfl) (fun q h => by cases h) ?_
  · refine lv_lload_n hx hb d_Wo_differenceInto_47 rfl (lv_at hl 0 rfl) ?_
    exact W.lret hx hb hret (fun t ht _ => ⟨_, rfl, by rw [kw_b_end hA hB], ht⟩) hlc d_Wo_differenceInto_48
  · rw [kw_b_0]
    exact lv_sub hl [0, 1, 2, 3, 4] rfl
