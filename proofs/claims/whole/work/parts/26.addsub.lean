/-! KeyCurveModel: add, sub (own rows). -/
theorem kx_lI {a : Nat} (h : a < 9223372036854775808) : (lN a).toInt = (a : Int) := pk_lT (by omega)
theorem kx_lneg {e : Nat} (h0 : 0 < e) (h : e ≤ 9223372036854775808) : (lN (18446744073709551616 - e)).toInt = -(e : Int) := by
  show (BitVec.ofNat 64 (18446744073709551616 - e)).toInt = _
  rw [BitVec.toInt_eq_toNat_cond, BitVec.toNat_ofNat]
  split <;> omega
/-- what is borrowed, as the model keeps it: 0 or -1 -/
theorem kx_sar {a b bw : Nat} (ha : a < 4294967296) (hb : b < 4294967296) (hw : bw ≤ 1) : lN (a + 18446744073709551616 - b + (18446744073709551616 - bw)) >>> ((nI 32).toInt64 &&& 63) = lN (18446744073709551616 - (if a < b + bw then 1 else 0)) := by
  have hD : (((nI 32).toInt64 &&& 63).toBitVec.smod 64).toNat = 32 := by decide +kernel
  apply Int64.toInt_inj.mp
  have e : ∀ x : Int64, (x >>> ((nI 32).toInt64 &&& 63)).toInt = x.toInt >>> 32 := by
    intro x
    rw [← hD]
    exact BitVec.toInt_sshiftRight ..
  rw [e, Int.shiftRight_eq_div_pow]
  by_cases h : a < b + bw
  · rw [if_pos h]
    have q : lN (a + 18446744073709551616 - b + (18446744073709551616 - bw)) = lN (18446744073709551616 - (b + bw - a)) := by
      rw [wb_mod]
      congr 1
      omega
    rw [q, kx_lneg (by omega) (by omega), kx_lneg (by decide) (by decide)]
    omega
  · rw [if_neg h]
    have q : lN (a + 18446744073709551616 - b + (18446744073709551616 - bw)) = lN (a - b - bw) := by
      rw [wb_mod, wb_mod (a - b - bw)]
      congr 1
      omega
    have q2 : lN (18446744073709551616 - 0) = lN 0 := by decide +kernel
    rw [q, q2, kx_lI (by omega), kx_lI (by decide)]
    omega
theorem kx_neg0 {bw : Nat} (h : bw ≤ 1) : nI (18446744073709551616 - bw) = 0 ↔ bw = 0 := by
  rcases (show bw = 0 ∨ bw = 1 by omega) with e | e
  · subst e
    exact ⟨fun _ => rfl, fun _ => by decide +kernel⟩
  · subst e
    exact ⟨fun q => absurd q (by decide +kernel), fun q => absurd q (by decide)⟩
theorem d_Mo_add_1_0 : decode b_Mo_add_1 0 = .ok (.lconst 0, 1) := by decide +kernel
theorem d_Mo_add_1_1 : decode b_Mo_add_1 1 = .ok (.lstore_n 3, 1) := by decide +kernel
theorem d_Mo_add_1_2 : decode b_Mo_add_1 2 = .ok (.iconst 0, 1) := by decide +kernel
theorem d_Mo_add_1_3 : decode b_Mo_add_1 3 = .ok (.istore 5, 2) := by decide +kernel
theorem d_Mo_add_1_5 : decode b_Mo_add_1 5 = .ok (.iload 5, 2) := by decide +kernel
theorem d_Mo_add_1_7 : decode b_Mo_add_1 7 = .ok (.bipush 8, 2) := by decide +kernel
theorem d_Mo_add_1_9 : decode b_Mo_add_1 9 = .ok (.if_icmp .ge 42, 3) := by decide +kernel
theorem d_Mo_add_1_12 : decode b_Mo_add_1 12 = .ok (.lload_n 3, 1) := by decide +kernel
theorem d_Mo_add_1_13 : decode b_Mo_add_1 13 = .ok (.aload_n 1, 1) := by decide +kernel
theorem d_Mo_add_1_14 : decode b_Mo_add_1 14 = .ok (.iload 5, 2) := by decide +kernel
theorem d_Mo_add_1_16 : decode b_Mo_add_1 16 = .ok (.iaload, 1) := by decide +kernel
theorem d_Mo_add_1_17 : decode b_Mo_add_1 17 = .ok (.i2l, 1) := by decide +kernel
theorem d_Mo_add_1_18 : decode b_Mo_add_1 18 = .ok (.ldc2_w 76, 3) := by decide +kernel
theorem d_Mo_add_1_21 : decode b_Mo_add_1 21 = .ok (.land, 1) := by decide +kernel
theorem d_Mo_add_1_22 : decode b_Mo_add_1 22 = .ok (.aload_n 2, 1) := by decide +kernel
theorem d_Mo_add_1_23 : decode b_Mo_add_1 23 = .ok (.iload 5, 2) := by decide +kernel
theorem d_Mo_add_1_25 : decode b_Mo_add_1 25 = .ok (.iaload, 1) := by decide +kernel
theorem d_Mo_add_1_26 : decode b_Mo_add_1 26 = .ok (.i2l, 1) := by decide +kernel
theorem d_Mo_add_1_27 : decode b_Mo_add_1 27 = .ok (.ldc2_w 76, 3) := by decide +kernel
theorem d_Mo_add_1_30 : decode b_Mo_add_1 30 = .ok (.land, 1) := by decide +kernel
theorem d_Mo_add_1_31 : decode b_Mo_add_1 31 = .ok (.ladd, 1) := by decide +kernel
theorem d_Mo_add_1_32 : decode b_Mo_add_1 32 = .ok (.ladd, 1) := by decide +kernel
theorem d_Mo_add_1_33 : decode b_Mo_add_1 33 = .ok (.lstore_n 3, 1) := by decide +kernel
theorem d_Mo_add_1_34 : decode b_Mo_add_1 34 = .ok (.aload_n 0, 1) := by decide +kernel
theorem d_Mo_add_1_35 : decode b_Mo_add_1 35 = .ok (.iload 5, 2) := by decide +kernel
theorem d_Mo_add_1_37 : decode b_Mo_add_1 37 = .ok (.lload_n 3, 1) := by decide +kernel
theorem d_Mo_add_1_38 : decode b_Mo_add_1 38 = .ok (.l2i, 1) := by decide +kernel
theorem d_Mo_add_1_39 : decode b_Mo_add_1 39 = .ok (.iastore, 1) := by decide +kernel
theorem d_Mo_add_1_40 : decode b_Mo_add_1 40 = .ok (.lload_n 3, 1) := by decide +kernel
theorem d_Mo_add_1_41 : decode b_Mo_add_1 41 = .ok (.bipush 32, 2) := by decide +kernel
theorem d_Mo_add_1_43 : decode b_Mo_add_1 43 = .ok (.lushr, 1) := by decide +kernel
theorem d_Mo_add_1_44 : decode b_Mo_add_1 44 = .ok (.lstore_n 3, 1) := by decide +kernel
theorem d_Mo_add_1_45 : decode b_Mo_add_1 45 = .ok (.iinc 5 1, 3) := by decide +kernel
theorem d_Mo_add_1_48 : decode b_Mo_add_1 48 = .ok (.goto (-43), 3) := by decide +kernel
theorem d_Mo_add_1_51 : decode b_Mo_add_1 51 = .ok (.lload_n 3, 1) := by decide +kernel
theorem d_Mo_add_1_52 : decode b_Mo_add_1 52 = .ok (.l2i, 1) := by decide +kernel
theorem d_Mo_add_1_53 : decode b_Mo_add_1 53 = .ok (.ireturn, 1) := by decide +kernel
section
variable {p : Program} {l : Launch} {e : Env} {R : Room} {s : State} {m : MethodId} {args : Array Value} {below : List Frame} {meth : Method} {c : Code} {cells slots : Nat} {Q : State → Prop}
set_option maxHeartbeats 4000000 in
set_option maxRecDepth 100000 in
theorem lp_Mo_add_1 (hx : p.tables.exec = Jvm.exec) (hb : c.code = b_Mo_add_1) (hts : ∀ w ∈ w_Mo_add_1, w.before args s = true) (hown : s.vm.findClass R_Mo = some m.cls) {cI : ClassId} {H : Heap} {r a b R0 A B : Nat} (hT : ArrOfT s cI .int) (hsa : kq_sI s H a 8 A) (hsb : kq_sI s H b 8 B) (hr : H[r]? = some (kq_I cI 8 R0)) (hB : B < kw_M 8)
    (kk : ∀ (ls : Array Slot) (locs : List Loc), (∀ q ∈ locs, q.base = r) → lv_has ls 6 [(3, .long (lN (kw_c A B 8)))] → W p l e R s m args below meth c (kq_set H r (kq_I cI 8 ((A + B) % kw_M 8))) locs cells slots Q (F0 m 51 ls [])) :
    ∀ (n i V : Nat) (ls : Array Slot) (locs : List Loc), i + n = 8 → V < kw_M 8 → V % kw_M i = (A + B) % kw_M i → (∀ j, i ≤ j → j < 8 → kw_d V j = kw_d R0 j) → (∀ q ∈ locs, q.base = r) → lv_has ls 6 [(5, .int (nI i)), (3, .long (lN (kw_c A B i))), (0, .ref r), (1, .ref a), (2, .ref b)] → W p l e R s m args below meth c (kq_set H r (kq_I cI 8 V)) locs cells slots Q (F0 m 5 ls []) := by
  intro n
  induction n with
  | zero =>
    intro i V ls locs hn hV hlo hhi hlc hl
    obtain rfl : i = 8 := by omega
    refine lv_iload hx hb d_Mo_add_1_5 (lv_at hl 0 rfl) ?_
    refine lv_bipush (v := nI 8) hx hb d_Mo_add_1_7 (by decide) ?_
    refine lv_icmp_ge hx hb d_Mo_add_1_9 rfl (fun hc => ?_) (fun hc => ?_)
    · have e : V = (A + B) % kw_M 8 := by
        rw [Nat.mod_eq_of_lt hV] at hlo
        exact hlo
      rw [e]
      exact kk ls locs hlc (lv_sub hl [1] rfl)
    · exact absurd (nI_le (Nat.le_refl 8) (by decide)) hc
  | succ n ih =>
    intro i V ls locs hn hV hlo hhi hlc hl
    have hi : i < 8 := by omega
    obtain ⟨fa, ha1, ha2⟩ := kq_mixI hsa hT hr hhi hi
    obtain ⟨fb, hb1, hb2⟩ := kq_mixI hsb hT hr hhi hi
    have lA := kw_d_lt A i
    have lB := kw_d_lt B i
    have lC := kw_c_le A B i
    obtain ⟨st1, st2⟩ := kw_c_step A B i
    refine lv_iload hx hb d_Mo_add_1_5 (lv_at hl 0 rfl) ?_
    refine lv_bipush (v := nI 8) hx hb d_Mo_add_1_7 (by decide) ?_
    refine lv_icmp_ge hx hb d_Mo_add_1_9 rfl (fun hc => ?_) (fun hc => ?_)
    · exact absurd hc (nI_ge hi (by decide))
    · refine lv_lload_n hx hb d_Mo_add_1_12 rfl (lv_at hl 1 rfl) ?_
      refine lv_aload_n hx hb d_Mo_add_1_13 rfl (lv_at hl 3 rfl) ?_
      refine lv_iload hx hb d_Mo_add_1_14 (lv_at hl 0 rfl) ?_
      refine kq_iald hx hb (ha1) (hi) (by decide) (ha2) d_Mo_add_1_16 ?_
      refine lv_i2l (v := (nI (kw_d A i)).toInt64) hx hb d_Mo_add_1_17 (rfl) ?_
      refine lv_ldc2 hx hb hown (v := lN 4294967295) (hts _ (List.mem_cons_of_mem _ kt_w476)) d_Mo_add_1_18 ?_
      refine lv_land hx hb d_Mo_add_1_21 ?_
      refine kq_rl (show ((nI (kw_d A i)).toInt64) &&& (lN 4294967295) = lN (kw_d A i) from kx_maskN lA) ?_
      refine lv_aload_n hx hb d_Mo_add_1_22 rfl (lv_at hl 4 rfl) ?_
      refine lv_iload hx hb d_Mo_add_1_23 (lv_at hl 0 rfl) ?_
      refine kq_iald hx hb (hb1) (hi) (by decide) (hb2) d_Mo_add_1_25 ?_
      refine lv_i2l (v := (nI (kw_d B i)).toInt64) hx hb d_Mo_add_1_26 (rfl) ?_
      refine lv_ldc2 hx hb hown (v := lN 4294967295) (hts _ (List.mem_cons_of_mem _ kt_w476)) d_Mo_add_1_27 ?_
      refine lv_land hx hb d_Mo_add_1_30 ?_
      refine kq_rl (show ((nI (kw_d B i)).toInt64) &&& (lN 4294967295) = lN (kw_d B i) from kx_maskN lB) ?_
      refine lv_ladd hx hb d_Mo_add_1_31 ?_
      refine kq_rl (show (lN (kw_d A i)) + (lN (kw_d B i)) = lN (kw_d A i + kw_d B i) from lN_add _ _) ?_
      refine lv_ladd hx hb d_Mo_add_1_32 ?_
      refine kq_rl (show (lN (kw_c A B i)) + (lN (kw_d A i + kw_d B i)) = lN (kw_c A B i + (kw_d A i + kw_d B i)) from lN_add _ _) ?_
      refine lv_lstore_n hx hb d_Mo_add_1_33 rfl hl (by decide) rfl (fun ls hl => ?_)
      have hl : lv_has ls 6 [(3, .long (lN (kw_c A B i + (kw_d A i + kw_d B i)))), (5, .int (nI i)), (0, .ref r), (1, .ref a), (2, .ref b)] := hl
      refine lv_aload_n hx hb d_Mo_add_1_34 rfl (lv_at hl 2 rfl) ?_
      refine lv_iload hx hb d_Mo_add_1_35 (lv_at hl 1 rfl) ?_
      refine lv_lload_n hx hb d_Mo_add_1_37 rfl (lv_at hl 0 rfl) ?_
      refine lv_l2i (v := nI (kw_d (A + B) i)) hx hb d_Mo_add_1_38 (by rw [lN_i, nI_mod, ← st2]; congr 1; omega) ?_
      refine kq_iast hx hb (hT) (kq_set_at hr) (hi) (by decide) (kw_d_lt _ _) d_Mo_add_1_39 ?_
      refine kq_rH (kq_set_set _ _ _ _) ?_
      refine lv_lload_n hx hb d_Mo_add_1_40 rfl (lv_at hl 0 rfl) ?_
      refine lv_bipush (v := nI 32) hx hb d_Mo_add_1_41 (by decide) ?_
      refine lv_lushr (v := lN (kw_c A B (i + 1))) hx hb d_Mo_add_1_43 (by rw [kq_ushr32 (by omega), ← st1]; congr 1; omega) ?_
      refine lv_lstore_n hx hb d_Mo_add_1_44 rfl hl (by decide) rfl (fun ls hl => ?_)
      have hl : lv_has ls 6 [(3, .long (lN (kw_c A B (i + 1)))), (5, .int (nI i)), (0, .ref r), (1, .ref a), (2, .ref b)] := hl
      refine lv_iinc (k := 1) (v := nI (i + 1)) hx hb d_Mo_add_1_45 hl rfl (kq_inc i) (by decide) rfl (fun ls hl => ?_)
      have hl : lv_has ls 6 [(5, .int (nI (i + 1))), (3, .long (lN (kw_c A B (i + 1)))), (0, .ref r), (1, .ref a), (2, .ref b)] := hl
      refine lv_goto hx hb d_Mo_add_1_48 rfl ?_
      refine ih (i + 1) (kw_s V i (kw_d (A + B) i)) ls _ (by omega) (kw_s_lt hV hi (kw_d_lt _ _)) ?_ (fun j h1 h2 => ?_) (t_lc (free := fun q => q = r) hlc rfl) (lv_sub hl [0, 1, 2, 3, 4] rfl)
      · rw [kw_s_lo _ _ _ (kw_d_lt _ _), hlo, ← kw_d_lo]
      · rw [kw_d_ws_ne _ (kw_d_lt _ _) (by omega)]
        exact hhi j (by omega) h2
end
set_option maxHeartbeats 4000000 in
set_option maxRecDepth 100000 in
theorem c_Mo_add_1 (l : Launch) (H : Heap) (cI : ClassId) (r a b R0 A B : Nat) (hR : R0 < kw_M 8) (hA : A < kw_M 8) (hB : B < kw_M 8) (hr : H[r]? = some (kq_I cI 8 R0)) : Met l y_Mo_add_1 w_Mo_add_1 ({ frames := 0, cells := 0, slots := 0, locals := 0 }) (kq_P [.ref r, .ref a, .ref b] H (fun U => ArrOfT U cI .int ∧ kq_sI U H a 8 A ∧ kq_sI U H b 8 B)) (kq_Q (fun v H1 => v = some (.int (nI ((A + B) / kw_M 8))) ∧ H1 = kq_set H r (kq_I cI 8 ((A + B) % kw_M 8)))) 0 0 (fun q => q = r) := by
  refine Met.ofW (cc := b_Mo_add_1) (maxL := 6) (ret := (some .int)) (by decide) rfl ?_
  intro p e s m args below meth c s₁ B0 hml hv
  obtain ⟨rfl, hH, hT, hsa, hsb⟩ := hv
  have hx := B0.exec
  have hb := B0.bytes
  have hret := B0.returns
  have hts := atoms_spec (ws := w_Mo_add_1) B0.pre
  have hown : s.vm.findClass R_Mo = some m.cls := findClass_of_methodNamed B0.named
  have hlocks := B0.notSynchronized
  rw [hH]
  have hl := lv_entry ([.ref r, .ref a, .ref b]) (n := 6) (Nat.le_of_ble_eq_true rfl)
  rw [lg_entry_eq]
  generalize (lg_sl ([.ref r, .ref a, .ref b]) ++ List.replicate (6 - (lg_sl ([.ref r, .ref a, .ref b])).length) Slot.unset).toArray = ls at hl ⊢
  have hl : lv_has ls 6 [(0, .ref r), (1, .ref a), (2, .ref b)] := hl
  refine lv_lconst (v := lN 0) hx hb d_Mo_add_1_0 (by decide) ?_
  refine lv_lstore_n hx hb d_Mo_add_1_1 rfl hl (by decide) rfl (fun ls hl => ?_)
  have hl : lv_has ls 6 [(3, .long (lN 0)), (0, .ref r), (1, .ref a), (2, .ref b)] := hl
  refine lv_iconst (v := nI 0) hx hb d_Mo_add_1_2 (by decide) ?_
  refine lv_istore hx hb d_Mo_add_1_3 hl (by decide) rfl (fun ls hl => ?_)
  have hl : lv_has ls 6 [(5, .int (nI 0)), (3, .long (lN 0)), (0, .ref r), (1, .ref a), (2, .ref b)] := hl
  refine kq_rH (kq_set_self hr).symm ?_
  refine lp_Mo_add_1 hx hb hts hown hT hsa hsb hr hB (fun ls locs hlc hl => ?_) 8 0 R0 ls [] rfl hR (by rw [kw_M_0, Nat.mod_one, Nat.mod_one]) (fun _ _ _ => rfl) (fun q h => by cases h) ?_
  · refine lv_lload_n hx hb d_Mo_add_1_51 rfl (lv_at hl 0 rfl) ?_
    refine lv_l2i (v := nI ((A + B) / kw_M 8)) hx hb d_Mo_add_1_52 (by rw [lN_i, kw_c_end hA hB]) ?_
    exact W.iret hx hb hret (fun t ht _ => ⟨_, rfl, rfl, ht⟩) hlc d_Mo_add_1_53
  · rw [kw_c_0]
    exact lv_sub hl [0, 1, 2, 3, 4] rfl
theorem d_Mo_sub_0 : decode b_Mo_sub 0 = .ok (.lconst 0, 1) := by decide +kernel
theorem d_Mo_sub_1 : decode b_Mo_sub 1 = .ok (.lstore_n 3, 1) := by decide +kernel
theorem d_Mo_sub_2 : decode b_Mo_sub 2 = .ok (.iconst 0, 1) := by decide +kernel
theorem d_Mo_sub_3 : decode b_Mo_sub 3 = .ok (.istore 5, 2) := by decide +kernel
theorem d_Mo_sub_5 : decode b_Mo_sub 5 = .ok (.iload 5, 2) := by decide +kernel
theorem d_Mo_sub_7 : decode b_Mo_sub 7 = .ok (.bipush 8, 2) := by decide +kernel
theorem d_Mo_sub_9 : decode b_Mo_sub 9 = .ok (.if_icmp .ge 42, 3) := by decide +kernel
theorem d_Mo_sub_12 : decode b_Mo_sub 12 = .ok (.aload_n 1, 1) := by decide +kernel
theorem d_Mo_sub_13 : decode b_Mo_sub 13 = .ok (.iload 5, 2) := by decide +kernel
theorem d_Mo_sub_15 : decode b_Mo_sub 15 = .ok (.iaload, 1) := by decide +kernel
theorem d_Mo_sub_16 : decode b_Mo_sub 16 = .ok (.i2l, 1) := by decide +kernel
theorem d_Mo_sub_17 : decode b_Mo_sub 17 = .ok (.ldc2_w 76, 3) := by decide +kernel
theorem d_Mo_sub_20 : decode b_Mo_sub 20 = .ok (.land, 1) := by decide +kernel
theorem d_Mo_sub_21 : decode b_Mo_sub 21 = .ok (.aload_n 2, 1) := by decide +kernel
theorem d_Mo_sub_22 : decode b_Mo_sub 22 = .ok (.iload 5, 2) := by decide +kernel
theorem d_Mo_sub_24 : decode b_Mo_sub 24 = .ok (.iaload, 1) := by decide +kernel
theorem d_Mo_sub_25 : decode b_Mo_sub 25 = .ok (.i2l, 1) := by decide +kernel
theorem d_Mo_sub_26 : decode b_Mo_sub 26 = .ok (.ldc2_w 76, 3) := by decide +kernel
theorem d_Mo_sub_29 : decode b_Mo_sub 29 = .ok (.land, 1) := by decide +kernel
theorem d_Mo_sub_30 : decode b_Mo_sub 30 = .ok (.lsub, 1) := by decide +kernel
theorem d_Mo_sub_31 : decode b_Mo_sub 31 = .ok (.lload_n 3, 1) := by decide +kernel
theorem d_Mo_sub_32 : decode b_Mo_sub 32 = .ok (.ladd, 1) := by decide +kernel
theorem d_Mo_sub_33 : decode b_Mo_sub 33 = .ok (.lstore_n 3, 1) := by decide +kernel
theorem d_Mo_sub_34 : decode b_Mo_sub 34 = .ok (.aload_n 0, 1) := by decide +kernel
theorem d_Mo_sub_35 : decode b_Mo_sub 35 = .ok (.iload 5, 2) := by decide +kernel
theorem d_Mo_sub_37 : decode b_Mo_sub 37 = .ok (.lload_n 3, 1) := by decide +kernel
theorem d_Mo_sub_38 : decode b_Mo_sub 38 = .ok (.l2i, 1) := by decide +kernel
theorem d_Mo_sub_39 : decode b_Mo_sub 39 = .ok (.iastore, 1) := by decide +kernel
theorem d_Mo_sub_40 : decode b_Mo_sub 40 = .ok (.lload_n 3, 1) := by decide +kernel
theorem d_Mo_sub_41 : decode b_Mo_sub 41 = .ok (.bipush 32, 2) := by decide +kernel
theorem d_Mo_sub_43 : decode b_Mo_sub 43 = .ok (.lshr, 1) := by decide +kernel
theorem d_Mo_sub_44 : decode b_Mo_sub 44 = .ok (.lstore_n 3, 1) := by decide +kernel
theorem d_Mo_sub_45 : decode b_Mo_sub 45 = .ok (.iinc 5 1, 3) := by decide +kernel
theorem d_Mo_sub_48 : decode b_Mo_sub 48 = .ok (.goto (-43), 3) := by decide +kernel
theorem d_Mo_sub_51 : decode b_Mo_sub 51 = .ok (.lload_n 3, 1) := by decide +kernel
theorem d_Mo_sub_52 : decode b_Mo_sub 52 = .ok (.l2i, 1) := by decide +kernel
theorem d_Mo_sub_53 : decode b_Mo_sub 53 = .ok (.ireturn, 1) := by decide +kernel
section
variable {p : Program} {l : Launch} {e : Env} {R : Room} {s : State} {m : MethodId} {args : Array Value} {below : List Frame} {meth : Method} {c : Code} {cells slots : Nat} {Q : State → Prop}
set_option maxHeartbeats 4000000 in
set_option maxRecDepth 100000 in
theorem lp_Mo_sub (hx : p.tables.exec = Jvm.exec) (hb : c.code = b_Mo_sub) (hts : ∀ w ∈ w_Mo_sub, w.before args s = true) (hown : s.vm.findClass R_Mo = some m.cls) {cI : ClassId} {H : Heap} {r a b R0 A B : Nat} (hT : ArrOfT s cI .int) (hsa : kq_sI s H a 8 A) (hsb : kq_sI s H b 8 B) (hr : H[r]? = some (kq_I cI 8 R0)) (hB : B < kw_M 8)
    (kk : ∀ (ls : Array Slot) (locs : List Loc), (∀ q ∈ locs, q.base = r) → lv_has ls 6 [(3, .long (lN (18446744073709551616 - kw_b A B 8)))] → W p l e R s m args below meth c (kq_set H r (kq_I cI 8 (kw_sub A B))) locs cells slots Q (F0 m 51 ls [])) :
    ∀ (n i V : Nat) (ls : Array Slot) (locs : List Loc), i + n = 8 → V < kw_M 8 → V % kw_M i = kw_sub A B % kw_M i → (∀ j, i ≤ j → j < 8 → kw_d V j = kw_d R0 j) → (∀ q ∈ locs, q.base = r) → lv_has ls 6 [(5, .int (nI i)), (3, .long (lN (18446744073709551616 - kw_b A B i))), (0, .ref r), (1, .ref a), (2, .ref b)] → W p l e R s m args below meth c (kq_set H r (kq_I cI 8 V)) locs cells slots Q (F0 m 5 ls []) := by
  intro n
  induction n with
  | zero =>
    intro i V ls locs hn hV hlo hhi hlc hl
    obtain rfl : i = 8 := by omega
    refine lv_iload hx hb d_Mo_sub_5 (lv_at hl 0 rfl) ?_
    refine lv_bipush (v := nI 8) hx hb d_Mo_sub_7 (by decide) ?_
    refine lv_icmp_ge hx hb d_Mo_sub_9 rfl (fun hc => ?_) (fun hc => ?_)
    · have e : V = kw_sub A B := by
        rw [Nat.mod_eq_of_lt hV, Nat.mod_eq_of_lt (kw_sub_lt A B)] at hlo
        exact hlo
      rw [e]
      exact kk ls locs hlc (lv_sub hl [1] rfl)
    · exact absurd (nI_le (Nat.le_refl 8) (by decide)) hc
  | succ n ih =>
    intro i V ls locs hn hV hlo hhi hlc hl
    have hi : i < 8 := by omega
    obtain ⟨fa, ha1, ha2⟩ := kq_mixI hsa hT hr hhi hi
    obtain ⟨fb, hb1, hb2⟩ := kq_mixI hsb hT hr hhi hi
    have lA := kw_d_lt A i
    have lB := kw_d_lt B i
    have lC := kw_b_le A B i
    have st1 := kw_b_step A B i
    have st2 := kw_sub_word (A := A) hB hi
    refine lv_iload hx hb d_Mo_sub_5 (lv_at hl 0 rfl) ?_
    refine lv_bipush (v := nI 8) hx hb d_Mo_sub_7 (by decide) ?_
    refine lv_icmp_ge hx hb d_Mo_sub_9 rfl (fun hc => ?_) (fun hc => ?_)
    · exact absurd hc (nI_ge hi (by decide))
    · refine lv_aload_n hx hb d_Mo_sub_12 rfl (lv_at hl 3 rfl) ?_
      refine lv_iload hx hb d_Mo_sub_13 (lv_at hl 0 rfl) ?_
      refine kq_iald hx hb (ha1) (hi) (by decide) (ha2) d_Mo_sub_15 ?_
      refine lv_i2l (v := (nI (kw_d A i)).toInt64) hx hb d_Mo_sub_16 (rfl) ?_
      refine lv_ldc2 hx hb hown (v := lN 4294967295) (hts _ (List.mem_cons_of_mem _ kt_w476)) d_Mo_sub_17 ?_
      refine lv_land hx hb d_Mo_sub_20 ?_
      refine kq_rl (show ((nI (kw_d A i)).toInt64) &&& (lN 4294967295) = lN (kw_d A i) from kx_maskN lA) ?_
      refine lv_aload_n hx hb d_Mo_sub_21 rfl (lv_at hl 4 rfl) ?_
      refine lv_iload hx hb d_Mo_sub_22 (lv_at hl 0 rfl) ?_
      refine kq_iald hx hb (hb1) (hi) (by decide) (hb2) d_Mo_sub_24 ?_
      refine lv_i2l (v := (nI (kw_d B i)).toInt64) hx hb d_Mo_sub_25 (rfl) ?_
      refine lv_ldc2 hx hb hown (v := lN 4294967295) (hts _ (List.mem_cons_of_mem _ kt_w476)) d_Mo_sub_26 ?_
      refine lv_land hx hb d_Mo_sub_29 ?_
      refine kq_rl (show ((nI (kw_d B i)).toInt64) &&& (lN 4294967295) = lN (kw_d B i) from kx_maskN lB) ?_
      refine lv_lsub hx hb d_Mo_sub_30 ?_
      refine kq_rl (show (lN (kw_d A i)) - (lN (kw_d B i)) = lN (kw_d A i + 18446744073709551616 - kw_d B i) from kq_lsub (by omega)) ?_
      refine lv_lload_n hx hb d_Mo_sub_31 rfl (lv_at hl 1 rfl) ?_
      refine lv_ladd hx hb d_Mo_sub_32 ?_
      refine kq_rl (show (lN (kw_d A i + 18446744073709551616 - kw_d B i)) + (lN (18446744073709551616 - kw_b A B i)) = lN (kw_d A i + 18446744073709551616 - kw_d B i + (18446744073709551616 - kw_b A B i)) from lN_add _ _) ?_
      refine lv_lstore_n hx hb d_Mo_sub_33 rfl hl (by decide) rfl (fun ls hl => ?_)
      have hl : lv_has ls 6 [(3, .long (lN (kw_d A i + 18446744073709551616 - kw_d B i + (18446744073709551616 - kw_b A B i)))), (5, .int (nI i)), (0, .ref r), (1, .ref a), (2, .ref b)] := hl
      refine lv_aload_n hx hb d_Mo_sub_34 rfl (lv_at hl 2 rfl) ?_
      refine lv_iload hx hb d_Mo_sub_35 (lv_at hl 1 rfl) ?_
      refine lv_lload_n hx hb d_Mo_sub_37 rfl (lv_at hl 0 rfl) ?_
      refine lv_l2i (v := nI (kw_d (kw_sub A B) i)) hx hb d_Mo_sub_38 (by rw [lN_i, nI_mod, ← st2]; congr 1; omega) ?_
      refine kq_iast hx hb (hT) (kq_set_at hr) (hi) (by decide) (kw_d_lt _ _) d_Mo_sub_39 ?_
      refine kq_rH (kq_set_set _ _ _ _) ?_
      refine lv_lload_n hx hb d_Mo_sub_40 rfl (lv_at hl 0 rfl) ?_
      refine lv_bipush (v := nI 32) hx hb d_Mo_sub_41 (by decide) ?_
      refine lv_lshr (v := lN (18446744073709551616 - kw_b A B (i + 1))) hx hb d_Mo_sub_43 (by rw [kx_sar lA lB lC, st1]) ?_
      refine lv_lstore_n hx hb d_Mo_sub_44 rfl hl (by decide) rfl (fun ls hl => ?_)
      have hl : lv_has ls 6 [(3, .long (lN (18446744073709551616 - kw_b A B (i + 1)))), (5, .int (nI i)), (0, .ref r), (1, .ref a), (2, .ref b)] := hl
      refine lv_iinc (k := 1) (v := nI (i + 1)) hx hb d_Mo_sub_45 hl rfl (kq_inc i) (by decide) rfl (fun ls hl => ?_)
      have hl : lv_has ls 6 [(5, .int (nI (i + 1))), (3, .long (lN (18446744073709551616 - kw_b A B (i + 1)))), (0, .ref r), (1, .ref a), (2, .ref b)] := hl
      refine lv_goto hx hb d_Mo_sub_48 rfl ?_
      refine ih (i + 1) (kw_s V i (kw_d (kw_sub A B) i)) ls _ (by omega) (kw_s_lt hV hi (kw_d_lt _ _)) ?_ (fun j h1 h2 => ?_) (t_lc (free := fun q => q = r) hlc rfl) (lv_sub hl [0, 1, 2, 3, 4] rfl)
      · rw [kw_s_lo _ _ _ (kw_d_lt _ _), hlo, ← kw_d_lo]
      · rw [kw_d_ws_ne _ (kw_d_lt _ _) (by omega)]
        exact hhi j (by omega) h2
end
set_option maxHeartbeats 4000000 in
set_option maxRecDepth 100000 in
theorem c_Mo_sub (l : Launch) (H : Heap) (cI : ClassId) (r a b R0 A B : Nat) (hR : R0 < kw_M 8) (hA : A < kw_M 8) (hB : B < kw_M 8) (hr : H[r]? = some (kq_I cI 8 R0)) : Met l y_Mo_sub w_Mo_sub ({ frames := 0, cells := 0, slots := 0, locals := 0 }) (kq_P [.ref r, .ref a, .ref b] H (fun U => ArrOfT U cI .int ∧ kq_sI U H a 8 A ∧ kq_sI U H b 8 B)) (kq_Q (fun v H1 => v = some (.int (nI (18446744073709551616 - (if A < B then 1 else 0)))) ∧ H1 = kq_set H r (kq_I cI 8 (kw_sub A B)))) 0 0 (fun q => q = r) := by
  refine Met.ofW (cc := b_Mo_sub) (maxL := 6) (ret := (some .int)) (by decide) rfl ?_
  intro p e s m args below meth c s₁ B0 hml hv
  obtain ⟨rfl, hH, hT, hsa, hsb⟩ := hv
  have hx := B0.exec
  have hb := B0.bytes
  have hret := B0.returns
  have hts := atoms_spec (ws := w_Mo_sub) B0.pre
  have hown : s.vm.findClass R_Mo = some m.cls := findClass_of_methodNamed B0.named
  have hlocks := B0.notSynchronized
  rw [hH]
  have hl := lv_entry ([.ref r, .ref a, .ref b]) (n := 6) (Nat.le_of_ble_eq_true rfl)
  rw [lg_entry_eq]
  generalize (lg_sl ([.ref r, .ref a, .ref b]) ++ List.replicate (6 - (lg_sl ([.ref r, .ref a, .ref b])).length) Slot.unset).toArray = ls at hl ⊢
  have hl : lv_has ls 6 [(0, .ref r), (1, .ref a), (2, .ref b)] := hl
  refine lv_lconst (v := lN 0) hx hb d_Mo_sub_0 (by decide) ?_
  refine lv_lstore_n hx hb d_Mo_sub_1 rfl hl (by decide) rfl (fun ls hl => ?_)
  have hl : lv_has ls 6 [(3, .long (lN 0)), (0, .ref r), (1, .ref a), (2, .ref b)] := hl
  refine lv_iconst (v := nI 0) hx hb d_Mo_sub_2 (by decide) ?_
  refine lv_istore hx hb d_Mo_sub_3 hl (by decide) rfl (fun ls hl => ?_)
  have hl : lv_has ls 6 [(5, .int (nI 0)), (3, .long (lN 0)), (0, .ref r), (1, .ref a), (2, .ref b)] := hl
  refine kq_rH (kq_set_self hr).symm ?_
  refine lp_Mo_sub hx hb hts hown hT hsa hsb hr hB (fun ls locs hlc hl => ?_) 8 0 R0 ls [] rfl hR (by rw [kw_M_0, Nat.mod_one, Nat.mod_one]) (fun _ _ _ => rfl) (fun q h => by cases h) ?_
  · refine lv_lload_n hx hb d_Mo_sub_51 rfl (lv_at hl 0 rfl) ?_
    refine lv_l2i (v := nI (18446744073709551616 - (if A < B then 1 else 0))) hx hb d_Mo_sub_52 (by rw [lN_i, kw_b_end hA hB]) ?_
    exact W.iret hx hb hret (fun t ht _ => ⟨_, rfl, rfl, ht⟩) hlc d_Mo_sub_53
  · rw [kw_b_0, show lN (18446744073709551616 - 0) = lN 0 by decide +kernel]
    exact lv_sub hl [0, 1, 2, 3, 4] rfl
