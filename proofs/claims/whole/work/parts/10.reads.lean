/-! KeyCurve$Words: the reading methods and copy (own rows). -/
theorem kt_w225 : (Jvm.Cond.native ({ cls := "java/lang/System", name := "arraycopy", desc := "(Ljava/lang/Object;ILjava/lang/Object;II)V" } : Jvm.MethodName)) ∈ kt_all := kt_mem (i := 247) (by decide +kernel) (by decide +kernel)
theorem kq_z_t {P : Prop} [Decidable P] (h : P) : kq_z (decide P) = nI 1 := by rw [decide_eq_true h]; rfl
theorem kq_z_f {P : Prop} [Decidable P] (h : ¬ P) : kq_z (decide P) = nI 0 := by rw [decide_eq_false h]; rfl
theorem kq_z_ne {P : Prop} [Decidable P] : ¬ kq_z (decide P) = 0 ↔ P := by
  by_cases h : P
  · rw [kq_z_t h]
    exact ⟨fun _ => h, fun _ => by decide⟩
  · rw [kq_z_f h]
    exact ⟨fun q => absurd rfl q, fun q => absurd q h⟩
theorem kq_z_eq {P : Prop} [Decidable P] : kq_z (decide P) = 0 ↔ ¬ P := by
  by_cases h : P
  · rw [kq_z_t h]
    exact ⟨fun q => absurd q (by decide), fun q => absurd h q⟩
  · rw [kq_z_f h]
    exact ⟨fun _ => h, fun _ => rfl⟩
/-- a counter that falls from n - 1 to -1 -/
def kq_dn : Nat → Int32
  | 0 => -1
  | n + 1 => nI n
theorem kq_dn_dec : ∀ n : Nat, nI n + Int32.ofInt (-1) = kq_dn n
  | 0 => by decide
  | n + 1 => kq_dec n
theorem kw_d_0 (V : Nat) : kw_d V 0 = V % 4294967296 := by
  unfold kw_d
  rw [kw_M_0, Nat.div_one]
theorem kw_d_zero {V n : Nat} : V % kw_M (n + 1) = 0 ↔ V % kw_M n = 0 ∧ kw_d V n = 0 := by
  have hM := kw_M_pos n
  rw [kw_d_lo]
  constructor
  · intro h
    have h1 : kw_M n * kw_d V n = 0 := by omega
    rcases Nat.mul_eq_zero.mp h1 with q | q
    · omega
    · exact ⟨by omega, q⟩
  · intro h
    rw [h.1, h.2, Nat.mul_zero]
theorem kw_less {A B k : Nat} (h : A / kw_M (k + 1) = B / kw_M (k + 1)) (hne : kw_d A k ≠ kw_d B k) : A < B ↔ kw_d A k < kw_d B k := by
  have eA := kw_d_div A k
  have eB := kw_d_div B k
  constructor
  · intro q
    have q1 : A / kw_M k ≤ B / kw_M k := Nat.div_le_div_right (Nat.le_of_lt q)
    omega
  · intro q
    apply Classical.byContradiction
    intro n
    have q1 : B / kw_M k ≤ A / kw_M k := Nat.div_le_div_right (by omega)
    omega
theorem kw_bit (A b : Nat) : kw_d A (b / 32) / 2 ^ (b % 32) % 2 = A / 2 ^ b % 2 := by
  have hb : b = 32 * (b / 32) + b % 32 := (Nat.div_add_mod b 32).symm
  have hr : b % 32 < 32 := Nat.mod_lt _ (by decide)
  have e1 : A / 2 ^ b = A / kw_M (b / 32) / 2 ^ (b % 32) := by
    unfold kw_M
    rw [Nat.div_div_eq_div_mul, ← Nat.pow_add, ← hb]
  have e2 : (4294967296 : Nat) = 2 ^ (b % 32) * 2 ^ (32 - b % 32) := by
    rw [← Nat.pow_add, show b % 32 + (32 - b % 32) = 32 by omega]
  rw [e1]
  unfold kw_d
  rw [e2, Nat.mod_mul_right_div_self]
  apply Nat.mod_mod_of_dvd
  exact ⟨2 ^ (31 - b % 32), by rw [← Nat.pow_succ', Nat.succ_eq_add_one, show 31 - b % 32 + 1 = 32 - b % 32 by omega]⟩
theorem d_Wo_copy_0 : decode b_Wo_copy 0 = .ok (.aload_n 1, 1) := by decide +kernel
theorem d_Wo_copy_1 : decode b_Wo_copy 1 = .ok (.iconst 0, 1) := by decide +kernel
theorem d_Wo_copy_2 : decode b_Wo_copy 2 = .ok (.aload_n 0, 1) := by decide +kernel
theorem d_Wo_copy_3 : decode b_Wo_copy 3 = .ok (.iconst 0, 1) := by decide +kernel
theorem d_Wo_copy_4 : decode b_Wo_copy 4 = .ok (.bipush 8, 2) := by decide +kernel
theorem d_Wo_copy_6 : decode b_Wo_copy 6 = .ok (.invokestatic 9, 3) := by decide +kernel
theorem d_Wo_copy_9 : decode b_Wo_copy 9 = .ok (.return_, 1) := by decide +kernel
set_option maxHeartbeats 4000000 in
set_option maxRecDepth 100000 in
theorem c_Wo_copy (l : Launch) (cL : ClassId) (H : Heap) (r a R0 A : Nat) (hr : H[r]? = some (kq_L cL 8 R0)) : Met l y_Wo_copy w_Wo_copy ({ frames := 1, cells := 0, slots := 0, locals := 20 }) (kq_P [.ref r, .ref a] H (fun U => ArrOfT U cL .long ∧ kq_sL U H a 8 A)) (kq_Q (fun v H1 => v = none ∧ H1 = kq_set H r (kq_L cL 8 A))) 0 0 (fun q => q = r) := by
  refine Met.ofW (cc := b_Wo_copy) (maxL := 2) (ret := none) (by decide) rfl ?_
  intro p e s m args below meth c s₁ B0 hml hv
  obtain ⟨rfl, hH, hT, hsa⟩ := hv
  have hx := B0.exec
  have hb := B0.bytes
  have hret := B0.returns
  have hts := atoms_spec (ws := w_Wo_copy) B0.pre
  have hown : s.vm.findClass R_Wo = some m.cls := findClass_of_methodNamed B0.named
  have hlocks := B0.notSynchronized
  rw [hH]
  have hl := lv_entry ([.ref r, .ref a]) (n := 2) (Nat.le_of_ble_eq_true rfl)
  rw [lg_entry_eq]
  generalize (lg_sl ([.ref r, .ref a]) ++ List.replicate (2 - (lg_sl ([.ref r, .ref a])).length) Slot.unset).toArray = ls at hl ⊢
  have hl : lv_has ls 2 [(0, .ref r), (1, .ref a)] := hl
  refine lv_aload_n hx hb d_Wo_copy_0 rfl (lv_at hl 1 rfl) ?_
  refine lv_iconst (v := nI 0) hx hb d_Wo_copy_1 (by decide) ?_
  refine lv_aload_n hx hb d_Wo_copy_2 rfl (lv_at hl 0 rfl) ?_
  refine lv_iconst (v := nI 0) hx hb d_Wo_copy_3 (by decide) ?_
  refine lv_bipush (v := nI 8) hx hb d_Wo_copy_4 (by decide) ?_
  refine kq_copyL hx hb (by rw [hml]; exact hl.1.symm) hown (hts _ (List.mem_cons_of_mem _ kt_w223)) (hts _ (List.mem_cons_of_mem _ kt_w225)) (hts _ (List.mem_cons_of_mem _ kt_w224)) (hts _ (List.mem_cons_of_mem _ kt_w7)) hsa hT hr (Nat.le_of_ble_eq_true rfl) (Nat.le_of_ble_eq_true rfl) d_Wo_copy_6 (fun L hL => ?_)
  exact W.vret hx hb hret (fun t ht _ => ⟨_, rfl, rfl, ht⟩) hL d_Wo_copy_9
theorem d_Wo_isZero_0 : decode b_Wo_isZero 0 = .ok (.lconst 0, 1) := by decide +kernel
theorem d_Wo_isZero_1 : decode b_Wo_isZero 1 = .ok (.lstore_n 1, 1) := by decide +kernel
theorem d_Wo_isZero_2 : decode b_Wo_isZero 2 = .ok (.iconst 0, 1) := by decide +kernel
theorem d_Wo_isZero_3 : decode b_Wo_isZero 3 = .ok (.istore_n 3, 1) := by decide +kernel
theorem d_Wo_isZero_4 : decode b_Wo_isZero 4 = .ok (.iload_n 3, 1) := by decide +kernel
theorem d_Wo_isZero_5 : decode b_Wo_isZero 5 = .ok (.bipush 8, 2) := by decide +kernel
theorem d_Wo_isZero_7 : decode b_Wo_isZero 7 = .ok (.if_icmp .ge 15, 3) := by decide +kernel
theorem d_Wo_isZero_10 : decode b_Wo_isZero 10 = .ok (.lload_n 1, 1) := by decide +kernel
theorem d_Wo_isZero_11 : decode b_Wo_isZero 11 = .ok (.aload_n 0, 1) := by decide +kernel
theorem d_Wo_isZero_12 : decode b_Wo_isZero 12 = .ok (.iload_n 3, 1) := by decide +kernel
theorem d_Wo_isZero_13 : decode b_Wo_isZero 13 = .ok (.laload, 1) := by decide +kernel
theorem d_Wo_isZero_14 : decode b_Wo_isZero 14 = .ok (.lor, 1) := by decide +kernel
theorem d_Wo_isZero_15 : decode b_Wo_isZero 15 = .ok (.lstore_n 1, 1) := by decide +kernel
theorem d_Wo_isZero_16 : decode b_Wo_isZero 16 = .ok (.iinc 3 1, 3) := by decide +kernel
theorem d_Wo_isZero_19 : decode b_Wo_isZero 19 = .ok (.goto (-15), 3) := by decide +kernel
theorem d_Wo_isZero_22 : decode b_Wo_isZero 22 = .ok (.lload_n 1, 1) := by decide +kernel
theorem d_Wo_isZero_23 : decode b_Wo_isZero 23 = .ok (.lconst 0, 1) := by decide +kernel
theorem d_Wo_isZero_24 : decode b_Wo_isZero 24 = .ok (.lcmp, 1) := by decide +kernel
theorem d_Wo_isZero_25 : decode b_Wo_isZero 25 = .ok (.ifCond .ne 7, 3) := by decide +kernel
theorem d_Wo_isZero_28 : decode b_Wo_isZero 28 = .ok (.iconst 1, 1) := by decide +kernel
theorem d_Wo_isZero_29 : decode b_Wo_isZero 29 = .ok (.goto 4, 3) := by decide +kernel
theorem d_Wo_isZero_32 : decode b_Wo_isZero 32 = .ok (.iconst 0, 1) := by decide +kernel
theorem d_Wo_isZero_33 : decode b_Wo_isZero 33 = .ok (.ireturn, 1) := by decide +kernel
section
variable {p : Program} {l : Launch} {e : Env} {R : Room} {s : State} {m : MethodId} {args : Array Value} {below : List Frame} {meth : Method} {c : Code} {cells slots : Nat} {Q : State → Prop}
set_option maxHeartbeats 4000000 in
set_option maxRecDepth 100000 in
theorem lp_Wo_isZero (hx : p.tables.exec = Jvm.exec) (hb : c.code = b_Wo_isZero) {H : Heap} {locs : List Loc} {a A : Nat} (hsa : kq_sL s H a 8 A)
    (kk : ∀ (z : Nat) (ls : Array Slot), z < 4294967296 → (z = 0 ↔ A % kw_M 8 = 0) → lv_has ls 4 [(1, .long (lN z))] → W p l e R s m args below meth c H locs cells slots Q (F0 m 22 ls [])) :
    ∀ (n i z : Nat) (ls : Array Slot), i + n = 8 → z < 4294967296 → (z = 0 ↔ A % kw_M i = 0) → lv_has ls 4 [(3, .int (nI i)), (1, .long (lN z)), (0, .ref a)] → W p l e R s m args below meth c H locs cells slots Q (F0 m 4 ls []) := by
  intro n
  induction n with
  | zero =>
    intro i z ls hn hz hi0 hl
    obtain rfl : i = 8 := by omega
    refine lv_iload_n hx hb d_Wo_isZero_4 rfl (lv_at hl 0 rfl) ?_
    refine lv_bipush (v := nI 8) hx hb d_Wo_isZero_5 (by decide) ?_
    refine lv_icmp_ge hx hb d_Wo_isZero_7 rfl (fun hc => ?_) (fun hc => ?_)
    · exact kk z ls hz hi0 (lv_sub hl [1] rfl)
    · exact absurd (nI_le (Nat.le_refl 8) (by decide)) hc
  | succ n ih =>
    intro i z ls hn hz hi0 hl
    have hi : i < 8 := by omega
    have lA := kw_d_lt A i
    refine lv_iload_n hx hb d_Wo_isZero_4 rfl (lv_at hl 0 rfl) ?_
    refine lv_bipush (v := nI 8) hx hb d_Wo_isZero_5 (by decide) ?_
    refine lv_icmp_ge hx hb d_Wo_isZero_7 rfl (fun hc => ?_) (fun hc => ?_)
    · exact absurd hc (nI_ge hi (by decide))
    · refine lv_lload_n hx hb d_Wo_isZero_10 rfl (lv_at hl 1 rfl) ?_
      refine lv_aload_n hx hb d_Wo_isZero_11 rfl (lv_at hl 2 rfl) ?_
      refine lv_iload_n hx hb d_Wo_isZero_12 rfl (lv_at hl 0 rfl) ?_
      refine kq_lald hx hb (hsa) (hi) (by decide) (rfl) d_Wo_isZero_13 ?_
      refine lv_lor hx hb d_Wo_isZero_14 ?_
      refine kq_rl (show (lN z) ||| (lN (kw_d A i)) = lN (z ||| kw_d A i) from wb_or (by omega) (by omega)) ?_
      refine lv_lstore_n hx hb d_Wo_isZero_15 rfl hl (by decide) rfl (fun ls hl => ?_)
      have hl : lv_has ls 4 [(1, .long (lN (z ||| kw_d A i))), (3, .int (nI i)), (0, .ref a)] := hl
      refine lv_iinc (k := 1) (v := nI (i + 1)) hx hb d_Wo_isZero_16 hl rfl (kq_inc i) (by decide) rfl (fun ls hl => ?_)
      have hl : lv_has ls 4 [(3, .int (nI (i + 1))), (1, .long (lN (z ||| kw_d A i))), (0, .ref a)] := hl
      refine lv_goto hx hb d_Wo_isZero_19 rfl ?_
      refine ih (i + 1) (z ||| kw_d A i) ls (by omega) (Nat.or_lt_two_pow (n := 32) hz lA) ?_ (lv_sub hl [0, 1, 2] rfl)
      rw [kw_d_zero, Nat.or_eq_zero_iff, hi0]
end
set_option maxHeartbeats 4000000 in
set_option maxRecDepth 100000 in
theorem c_Wo_isZero (l : Launch) (H : Heap) (a A : Nat) (hA : A < kw_M 8) : Met l y_Wo_isZero w_Wo_isZero ({ frames := 0, cells := 0, slots := 0, locals := 0 }) (kq_P [.ref a] H (fun U => kq_sL U H a 8 A)) (kq_Q (fun v H1 => v = some (.int (kq_z (decide (A = 0)))) ∧ H1 = H)) 0 0 (fun _ => False) := by
  refine Met.ofW (cc := b_Wo_isZero) (maxL := 4) (ret := (some .boolean)) (by decide) rfl ?_
  intro p e s m args below meth c s₁ B0 hml hv
  obtain ⟨rfl, hH, hsa⟩ := hv
  have hx := B0.exec
  have hb := B0.bytes
  have hret := B0.returns
  have hts := atoms_spec (ws := w_Wo_isZero) B0.pre
  have hown : s.vm.findClass R_Wo = some m.cls := findClass_of_methodNamed B0.named
  have hlocks := B0.notSynchronized
  rw [hH]
  have hl := lv_entry ([.ref a]) (n := 4) (Nat.le_of_ble_eq_true rfl)
  rw [lg_entry_eq]
  generalize (lg_sl ([.ref a]) ++ List.replicate (4 - (lg_sl ([.ref a])).length) Slot.unset).toArray = ls at hl ⊢
  have hl : lv_has ls 4 [(0, .ref a)] := hl
  refine lv_lconst (v := lN 0) hx hb d_Wo_isZero_0 (by decide) ?_
  refine lv_lstore_n hx hb d_Wo_isZero_1 rfl hl (by decide) rfl (fun ls hl => ?_)
  have hl : lv_has ls 4 [(1, .long (lN 0)), (0, .ref a)] := hl
  refine lv_iconst (v := nI 0) hx hb d_Wo_isZero_2 (by decide) ?_
  refine lv_istore_n hx hb d_Wo_isZero_3 rfl hl (by decide) rfl (fun ls hl => ?_)
  have hl : lv_has ls 4 [(3, .int (nI 0)), (1, .long (lN 0)), (0, .ref a)] := hl
  refine lp_Wo_isZero hx hb hsa (fun z ls hz hz0 hl => ?_) 8 0 0 ls rfl (by decide) (by rw [kw_M_0, Nat.mod_one]) (lv_sub hl [0, 1, 2] rfl)
  rw [Nat.mod_eq_of_lt hA] at hz0
  refine lv_lload_n hx hb d_Wo_isZero_22 rfl (lv_at hl 0 rfl) ?_
  refine lv_lconst (v := lN 0) hx hb d_Wo_isZero_23 (by decide) ?_
  refine W.lcmp hx hb d_Wo_isZero_24 ?_
  refine lv_if_ne hx hb d_Wo_isZero_25 rfl (fun hc => ?_) (fun hc => ?_)
  · have hn : ¬ A = 0 := fun q => hc ((kq_cmp_eq (by omega) (by decide)).mpr (hz0.mpr q))
    refine lv_iconst (v := nI 0) hx hb d_Wo_isZero_32 (by decide) ?_
    exact W.zret hx hb hret rfl (fun t ht _ => ⟨_, rfl, by rw [kq_z_f hn], ht⟩) (fun q h => by cases h) d_Wo_isZero_33
  · have hp : A = 0 := hz0.mp ((kq_cmp_eq (by omega) (by decide)).mp hc)
    refine lv_iconst (v := nI 1) hx hb d_Wo_isZero_28 (by decide) ?_
    refine lv_goto hx hb d_Wo_isZero_29 rfl ?_
    exact W.zret hx hb hret rfl (fun t ht _ => ⟨_, rfl, by rw [kq_z_t hp], ht⟩) (fun q h => by cases h) d_Wo_isZero_33
theorem d_Wo_areEqual_0 : decode b_Wo_areEqual 0 = .ok (.iconst 0, 1) := by decide +kernel
theorem d_Wo_areEqual_1 : decode b_Wo_areEqual 1 = .ok (.istore_n 2, 1) := by decide +kernel
theorem d_Wo_areEqual_2 : decode b_Wo_areEqual 2 = .ok (.iload_n 2, 1) := by decide +kernel
theorem d_Wo_areEqual_3 : decode b_Wo_areEqual 3 = .ok (.bipush 8, 2) := by decide +kernel
theorem d_Wo_areEqual_5 : decode b_Wo_areEqual 5 = .ok (.if_icmp .ge 21, 3) := by decide +kernel
theorem d_Wo_areEqual_8 : decode b_Wo_areEqual 8 = .ok (.aload_n 0, 1) := by decide +kernel
theorem d_Wo_areEqual_9 : decode b_Wo_areEqual 9 = .ok (.iload_n 2, 1) := by decide +kernel
theorem d_Wo_areEqual_10 : decode b_Wo_areEqual 10 = .ok (.laload, 1) := by decide +kernel
theorem d_Wo_areEqual_11 : decode b_Wo_areEqual 11 = .ok (.aload_n 1, 1) := by decide +kernel
theorem d_Wo_areEqual_12 : decode b_Wo_areEqual 12 = .ok (.iload_n 2, 1) := by decide +kernel
theorem d_Wo_areEqual_13 : decode b_Wo_areEqual 13 = .ok (.laload, 1) := by decide +kernel
theorem d_Wo_areEqual_14 : decode b_Wo_areEqual 14 = .ok (.lcmp, 1) := by decide +kernel
theorem d_Wo_areEqual_15 : decode b_Wo_areEqual 15 = .ok (.ifCond .eq 5, 3) := by decide +kernel
theorem d_Wo_areEqual_18 : decode b_Wo_areEqual 18 = .ok (.iconst 0, 1) := by decide +kernel
theorem d_Wo_areEqual_19 : decode b_Wo_areEqual 19 = .ok (.ireturn, 1) := by decide +kernel
theorem d_Wo_areEqual_20 : decode b_Wo_areEqual 20 = .ok (.iinc 2 1, 3) := by decide +kernel
theorem d_Wo_areEqual_23 : decode b_Wo_areEqual 23 = .ok (.goto (-21), 3) := by decide +kernel
theorem d_Wo_areEqual_26 : decode b_Wo_areEqual 26 = .ok (.iconst 1, 1) := by decide +kernel
theorem d_Wo_areEqual_27 : decode b_Wo_areEqual 27 = .ok (.ireturn, 1) := by decide +kernel
section
variable {p : Program} {l : Launch} {e : Env} {R : Room} {s : State} {m : MethodId} {args : Array Value} {below : List Frame} {meth : Method} {c : Code} {cells slots : Nat} {Q : State → Prop}
set_option maxHeartbeats 4000000 in
set_option maxRecDepth 100000 in
theorem lp_Wo_areEqual (hx : p.tables.exec = Jvm.exec) (hb : c.code = b_Wo_areEqual) {H : Heap} {locs : List Loc} {a b A B : Nat} (hsa : kq_sL s H a 8 A) (hsb : kq_sL s H b 8 B)
    (k0 : ∀ ls : Array Slot, A ≠ B → W p l e R s m args below meth c H locs cells slots Q (F0 m 18 ls [])) (k1 : ∀ ls : Array Slot, A % kw_M 8 = B % kw_M 8 → W p l e R s m args below meth c H locs cells slots Q (F0 m 26 ls [])) :
    ∀ (n i : Nat) (ls : Array Slot), i + n = 8 → A % kw_M i = B % kw_M i → lv_has ls 3 [(2, .int (nI i)), (0, .ref a), (1, .ref b)] → W p l e R s m args below meth c H locs cells slots Q (F0 m 2 ls []) := by
  intro n
  induction n with
  | zero =>
    intro i ls hn hi0 hl
    obtain rfl : i = 8 := by omega
    refine lv_iload_n hx hb d_Wo_areEqual_2 rfl (lv_at hl 0 rfl) ?_
    refine lv_bipush (v := nI 8) hx hb d_Wo_areEqual_3 (by decide) ?_
    refine lv_icmp_ge hx hb d_Wo_areEqual_5 rfl (fun hc => ?_) (fun hc => ?_)
    · exact k1 ls hi0
    · exact absurd (nI_le (Nat.le_refl 8) (by decide)) hc
  | succ n ih =>
    intro i ls hn hi0 hl
    have hi : i < 8 := by omega
    have lA := kw_d_lt A i
    have lB := kw_d_lt B i
    refine lv_iload_n hx hb d_Wo_areEqual_2 rfl (lv_at hl 0 rfl) ?_
    refine lv_bipush (v := nI 8) hx hb d_Wo_areEqual_3 (by decide) ?_
    refine lv_icmp_ge hx hb d_Wo_areEqual_5 rfl (fun hc => ?_) (fun hc => ?_)
    · exact absurd hc (nI_ge hi (by decide))
    · refine lv_aload_n hx hb d_Wo_areEqual_8 rfl (lv_at hl 1 rfl) ?_
      refine lv_iload_n hx hb d_Wo_areEqual_9 rfl (lv_at hl 0 rfl) ?_
      refine kq_lald hx hb (hsa) (hi) (by decide) (rfl) d_Wo_areEqual_10 ?_
      refine lv_aload_n hx hb d_Wo_areEqual_11 rfl (lv_at hl 2 rfl) ?_
      refine lv_iload_n hx hb d_Wo_areEqual_12 rfl (lv_at hl 0 rfl) ?_
      refine kq_lald hx hb (hsb) (hi) (by decide) (rfl) d_Wo_areEqual_13 ?_
      refine W.lcmp hx hb d_Wo_areEqual_14 ?_
      refine lv_if_eq hx hb d_Wo_areEqual_15 rfl (fun hc => ?_) (fun hc => ?_)
      · have hw := (kq_cmp_eq (by omega) (by omega)).mp hc
        refine lv_iinc (k := 0) (v := nI (i + 1)) hx hb d_Wo_areEqual_20 hl rfl (kq_inc i) (by decide) rfl (fun ls hl => ?_)
        have hl : lv_has ls 3 [(2, .int (nI (i + 1))), (0, .ref a), (1, .ref b)] := hl
        refine lv_goto hx hb d_Wo_areEqual_23 rfl ?_
        exact ih (i + 1) ls (by omega) (by rw [kw_d_lo, kw_d_lo, hi0, hw]) (lv_sub hl [0, 1, 2] rfl)
      · exact k0 ls (fun q => hc ((kq_cmp_eq (by omega) (by omega)).mpr (by rw [q])))
end
set_option maxHeartbeats 4000000 in
set_option maxRecDepth 100000 in
theorem c_Wo_areEqual (l : Launch) (H : Heap) (a b A B : Nat) (hA : A < kw_M 8) (hB : B < kw_M 8) : Met l y_Wo_areEqual w_Wo_areEqual ({ frames := 0, cells := 0, slots := 0, locals := 0 }) (kq_P [.ref a, .ref b] H (fun U => kq_sL U H a 8 A ∧ kq_sL U H b 8 B)) (kq_Q (fun v H1 => v = some (.int (kq_z (decide (A = B)))) ∧ H1 = H)) 0 0 (fun _ => False) := by
  refine Met.ofW (cc := b_Wo_areEqual) (maxL := 3) (ret := (some .boolean)) (by decide) rfl ?_
  intro p e s m args below meth c s₁ B0 hml hv
  obtain ⟨rfl, hH, hsa, hsb⟩ := hv
  have hx := B0.exec
  have hb := B0.bytes
  have hret := B0.returns
  have hts := atoms_spec (ws := w_Wo_areEqual) B0.pre
  have hown : s.vm.findClass R_Wo = some m.cls := findClass_of_methodNamed B0.named
  have hlocks := B0.notSynchronized
  rw [hH]
  have hl := lv_entry ([.ref a, .ref b]) (n := 3) (Nat.le_of_ble_eq_true rfl)
  rw [lg_entry_eq]
  generalize (lg_sl ([.ref a, .ref b]) ++ List.replicate (3 - (lg_sl ([.ref a, .ref b])).length) Slot.unset).toArray = ls at hl ⊢
  have hl : lv_has ls 3 [(0, .ref a), (1, .ref b)] := hl
  refine lv_iconst (v := nI 0) hx hb d_Wo_areEqual_0 (by decide) ?_
  refine lv_istore_n hx hb d_Wo_areEqual_1 rfl hl (by decide) rfl (fun ls hl => ?_)
  have hl : lv_has ls 3 [(2, .int (nI 0)), (0, .ref a), (1, .ref b)] := hl
  refine lp_Wo_areEqual hx hb hsa hsb (fun ls hne => ?_) (fun ls he => ?_) 8 0 ls rfl (by rw [kw_M_0, Nat.mod_one, Nat.mod_one]) (lv_sub hl [0, 1, 2] rfl)
  · refine lv_iconst (v := nI 0) hx hb d_Wo_areEqual_18 (by decide) ?_
    exact W.zret hx hb hret rfl (fun t ht _ => ⟨_, rfl, by rw [kq_z_f hne], ht⟩) (fun q h => by cases h) d_Wo_areEqual_19
  · rw [Nat.mod_eq_of_lt hA, Nat.mod_eq_of_lt hB] at he
    refine lv_iconst (v := nI 1) hx hb d_Wo_areEqual_26 (by decide) ?_
    exact W.zret hx hb hret rfl (fun t ht _ => ⟨_, rfl, by rw [kq_z_t he], ht⟩) (fun q h => by cases h) d_Wo_areEqual_27
theorem d_Wo_isBelow_0 : decode b_Wo_isBelow 0 = .ok (.bipush 7, 2) := by decide +kernel
theorem d_Wo_isBelow_2 : decode b_Wo_isBelow 2 = .ok (.istore_n 2, 1) := by decide +kernel
theorem d_Wo_isBelow_3 : decode b_Wo_isBelow 3 = .ok (.iload_n 2, 1) := by decide +kernel
theorem d_Wo_isBelow_4 : decode b_Wo_isBelow 4 = .ok (.ifCond .lt 35, 3) := by decide +kernel
theorem d_Wo_isBelow_7 : decode b_Wo_isBelow 7 = .ok (.aload_n 0, 1) := by decide +kernel
theorem d_Wo_isBelow_8 : decode b_Wo_isBelow 8 = .ok (.iload_n 2, 1) := by decide +kernel
theorem d_Wo_isBelow_9 : decode b_Wo_isBelow 9 = .ok (.laload, 1) := by decide +kernel
theorem d_Wo_isBelow_10 : decode b_Wo_isBelow 10 = .ok (.aload_n 1, 1) := by decide +kernel
theorem d_Wo_isBelow_11 : decode b_Wo_isBelow 11 = .ok (.iload_n 2, 1) := by decide +kernel
theorem d_Wo_isBelow_12 : decode b_Wo_isBelow 12 = .ok (.laload, 1) := by decide +kernel
theorem d_Wo_isBelow_13 : decode b_Wo_isBelow 13 = .ok (.lcmp, 1) := by decide +kernel
theorem d_Wo_isBelow_14 : decode b_Wo_isBelow 14 = .ok (.ifCond .eq 19, 3) := by decide +kernel
theorem d_Wo_isBelow_17 : decode b_Wo_isBelow 17 = .ok (.aload_n 0, 1) := by decide +kernel
theorem d_Wo_isBelow_18 : decode b_Wo_isBelow 18 = .ok (.iload_n 2, 1) := by decide +kernel
theorem d_Wo_isBelow_19 : decode b_Wo_isBelow 19 = .ok (.laload, 1) := by decide +kernel
theorem d_Wo_isBelow_20 : decode b_Wo_isBelow 20 = .ok (.aload_n 1, 1) := by decide +kernel
theorem d_Wo_isBelow_21 : decode b_Wo_isBelow 21 = .ok (.iload_n 2, 1) := by decide +kernel
theorem d_Wo_isBelow_22 : decode b_Wo_isBelow 22 = .ok (.laload, 1) := by decide +kernel
theorem d_Wo_isBelow_23 : decode b_Wo_isBelow 23 = .ok (.lcmp, 1) := by decide +kernel
theorem d_Wo_isBelow_24 : decode b_Wo_isBelow 24 = .ok (.ifCond .ge 7, 3) := by decide +kernel
theorem d_Wo_isBelow_27 : decode b_Wo_isBelow 27 = .ok (.iconst 1, 1) := by decide +kernel
theorem d_Wo_isBelow_28 : decode b_Wo_isBelow 28 = .ok (.goto 4, 3) := by decide +kernel
theorem d_Wo_isBelow_31 : decode b_Wo_isBelow 31 = .ok (.iconst 0, 1) := by decide +kernel
theorem d_Wo_isBelow_32 : decode b_Wo_isBelow 32 = .ok (.ireturn, 1) := by decide +kernel
theorem d_Wo_isBelow_33 : decode b_Wo_isBelow 33 = .ok (.iinc 2 (-1), 3) := by decide +kernel
theorem d_Wo_isBelow_36 : decode b_Wo_isBelow 36 = .ok (.goto (-33), 3) := by decide +kernel
theorem d_Wo_isBelow_39 : decode b_Wo_isBelow 39 = .ok (.iconst 0, 1) := by decide +kernel
theorem d_Wo_isBelow_40 : decode b_Wo_isBelow 40 = .ok (.ireturn, 1) := by decide +kernel
section
variable {p : Program} {l : Launch} {e : Env} {R : Room} {s : State} {m : MethodId} {args : Array Value} {below : List Frame} {meth : Method} {c : Code} {cells slots : Nat} {Q : State → Prop}
set_option maxHeartbeats 4000000 in
set_option maxRecDepth 100000 in
theorem lp_Wo_isBelow (hx : p.tables.exec = Jvm.exec) (hb : c.code = b_Wo_isBelow) {H : Heap} {locs : List Loc} {a b A B : Nat} (hsa : kq_sL s H a 8 A) (hsb : kq_sL s H b 8 B)
    (k0 : ∀ (ls : Array Slot) (v : Int32), v = kq_z (decide (A < B)) → W p l e R s m args below meth c H locs cells slots Q (F0 m 32 ls [.int v])) (k1 : ∀ ls : Array Slot, A = B → W p l e R s m args below meth c H locs cells slots Q (F0 m 39 ls [])) :
    ∀ (n : Nat) (ls : Array Slot), n ≤ 8 → A / kw_M n = B / kw_M n → lv_has ls 3 [(2, .int (kq_dn n)), (0, .ref a), (1, .ref b)] → W p l e R s m args below meth c H locs cells slots Q (F0 m 3 ls []) := by
  intro n
  induction n with
  | zero =>
    intro ls hn hd hl
    refine lv_iload_n hx hb d_Wo_isBelow_3 rfl (lv_at hl 0 rfl) ?_
    refine lv_if_lt hx hb d_Wo_isBelow_4 rfl (fun hc => ?_) (fun hc => ?_)
    · rw [kw_M_0, Nat.div_one, Nat.div_one] at hd
      exact k1 ls hd
    · exact absurd (by decide) hc
  | succ n ih =>
    intro ls hn hd hl
    have hi : n < 8 := by omega
    have lA := kw_d_lt A n
    have lB := kw_d_lt B n
    have hl : lv_has ls 3 [(2, .int (nI n)), (0, .ref a), (1, .ref b)] := hl
    refine lv_iload_n hx hb d_Wo_isBelow_3 rfl (lv_at hl 0 rfl) ?_
    refine lv_if_lt hx hb d_Wo_isBelow_4 rfl (fun hc => ?_) (fun hc => ?_)
    · exact absurd hc (nI_pos (by omega))
    · refine lv_aload_n hx hb d_Wo_isBelow_7 rfl (lv_at hl 1 rfl) ?_
      refine lv_iload_n hx hb d_Wo_isBelow_8 rfl (lv_at hl 0 rfl) ?_
      refine kq_lald hx hb (hsa) (hi) (by decide) (rfl) d_Wo_isBelow_9 ?_
      refine lv_aload_n hx hb d_Wo_isBelow_10 rfl (lv_at hl 2 rfl) ?_
      refine lv_iload_n hx hb d_Wo_isBelow_11 rfl (lv_at hl 0 rfl) ?_
      refine kq_lald hx hb (hsb) (hi) (by decide) (rfl) d_Wo_isBelow_12 ?_
      refine W.lcmp hx hb d_Wo_isBelow_13 ?_
      refine lv_if_eq hx hb d_Wo_isBelow_14 rfl (fun hc => ?_) (fun hne => ?_)
      · have hw := (kq_cmp_eq (by omega) (by omega)).mp hc
        refine lv_iinc (k := 0) (v := kq_dn n) hx hb d_Wo_isBelow_33 hl rfl (kq_dn_dec n) (by decide) rfl (fun ls hl => ?_)
        have hl : lv_has ls 3 [(2, .int (kq_dn n)), (0, .ref a), (1, .ref b)] := hl
        refine lv_goto hx hb d_Wo_isBelow_36 rfl ?_
        exact ih ls (by omega) (by rw [kw_d_div, kw_d_div B, hd, hw]) (lv_sub hl [0, 1, 2] rfl)
      · have hw : kw_d A n ≠ kw_d B n := fun q => hne ((kq_cmp_eq (by omega) (by omega)).mpr q)
        have hlt := kw_less hd hw
        refine lv_aload_n hx hb d_Wo_isBelow_17 rfl (lv_at hl 1 rfl) ?_
        refine lv_iload_n hx hb d_Wo_isBelow_18 rfl (lv_at hl 0 rfl) ?_
        refine kq_lald hx hb (hsa) (hi) (by decide) (rfl) d_Wo_isBelow_19 ?_
        refine lv_aload_n hx hb d_Wo_isBelow_20 rfl (lv_at hl 2 rfl) ?_
        refine lv_iload_n hx hb d_Wo_isBelow_21 rfl (lv_at hl 0 rfl) ?_
        refine kq_lald hx hb (hsb) (hi) (by decide) (rfl) d_Wo_isBelow_22 ?_
        refine W.lcmp hx hb d_Wo_isBelow_23 ?_
        refine lv_if_ge hx hb d_Wo_isBelow_24 rfl (fun hc => ?_) (fun hc => ?_)
        · have hn3 : ¬ A < B := fun q => absurd ((kq_cmp_lt (by omega) (by omega)).mpr (hlt.mp q)) (Int32.not_lt.mpr hc)
          refine lv_iconst (v := nI 0) hx hb d_Wo_isBelow_31 (by decide) ?_
          exact k0 ls _ (kq_z_f hn3).symm
        · have hp3 : A < B := hlt.mpr ((kq_cmp_lt (by omega) (by omega)).mp (Int32.not_le.mp hc))
          refine lv_iconst (v := nI 1) hx hb d_Wo_isBelow_27 (by decide) ?_
          refine lv_goto hx hb d_Wo_isBelow_28 rfl ?_
          exact k0 ls _ (kq_z_t hp3).symm
end
set_option maxHeartbeats 4000000 in
set_option maxRecDepth 100000 in
theorem c_Wo_isBelow (l : Launch) (H : Heap) (a b A B : Nat) (hA : A < kw_M 8) (hB : B < kw_M 8) : Met l y_Wo_isBelow w_Wo_isBelow ({ frames := 0, cells := 0, slots := 0, locals := 0 }) (kq_P [.ref a, .ref b] H (fun U => kq_sL U H a 8 A ∧ kq_sL U H b 8 B)) (kq_Q (fun v H1 => v = some (.int (kq_z (decide (A < B)))) ∧ H1 = H)) 0 0 (fun _ => False) := by
  refine Met.ofW (cc := b_Wo_isBelow) (maxL := 3) (ret := (some .boolean)) (by decide) rfl ?_
  intro p e s m args below meth c s₁ B0 hml hv
  obtain ⟨rfl, hH, hsa, hsb⟩ := hv
  have hx := B0.exec
  have hb := B0.bytes
  have hret := B0.returns
  have hts := atoms_spec (ws := w_Wo_isBelow) B0.pre
  have hown : s.vm.findClass R_Wo = some m.cls := findClass_of_methodNamed B0.named
  have hlocks := B0.notSynchronized
  rw [hH]
  have hl := lv_entry ([.ref a, .ref b]) (n := 3) (Nat.le_of_ble_eq_true rfl)
  rw [lg_entry_eq]
  generalize (lg_sl ([.ref a, .ref b]) ++ List.replicate (3 - (lg_sl ([.ref a, .ref b])).length) Slot.unset).toArray = ls at hl ⊢
  have hl : lv_has ls 3 [(0, .ref a), (1, .ref b)] := hl
  refine lv_bipush (v := nI 7) hx hb d_Wo_isBelow_0 (by decide) ?_
  refine lv_istore_n hx hb d_Wo_isBelow_2 rfl hl (by decide) rfl (fun ls hl => ?_)
  have hl : lv_has ls 3 [(2, .int (nI 7)), (0, .ref a), (1, .ref b)] := hl
  refine lp_Wo_isBelow hx hb hsa hsb (fun ls v hv => ?_) (fun ls he => ?_) 8 ls (Nat.le_refl 8) (by rw [Nat.div_eq_of_lt hA, Nat.div_eq_of_lt hB]) (lv_sub hl [0, 1, 2] rfl)
  · refine W.zret hx hb hret ?_ (fun t ht _ => ⟨_, rfl, by rw [hv], ht⟩) (fun q h => by cases h) d_Wo_isBelow_32
    rw [hv]
    unfold kq_z
    split <;> rfl
  · have hn3 : ¬ A < B := by omega
    refine lv_iconst (v := nI 0) hx hb d_Wo_isBelow_39 (by decide) ?_
    exact W.zret hx hb hret rfl (fun t ht _ => ⟨_, rfl, by rw [kq_z_f hn3], ht⟩) (fun q h => by cases h) d_Wo_isBelow_40
theorem d_Wo_isOdd_0 : decode b_Wo_isOdd 0 = .ok (.aload_n 0, 1) := by decide +kernel
theorem d_Wo_isOdd_1 : decode b_Wo_isOdd 1 = .ok (.iconst 0, 1) := by decide +kernel
theorem d_Wo_isOdd_2 : decode b_Wo_isOdd 2 = .ok (.laload, 1) := by decide +kernel
theorem d_Wo_isOdd_3 : decode b_Wo_isOdd 3 = .ok (.lconst 1, 1) := by decide +kernel
theorem d_Wo_isOdd_4 : decode b_Wo_isOdd 4 = .ok (.land, 1) := by decide +kernel
theorem d_Wo_isOdd_5 : decode b_Wo_isOdd 5 = .ok (.lconst 0, 1) := by decide +kernel
theorem d_Wo_isOdd_6 : decode b_Wo_isOdd 6 = .ok (.lcmp, 1) := by decide +kernel
theorem d_Wo_isOdd_7 : decode b_Wo_isOdd 7 = .ok (.ifCond .eq 7, 3) := by decide +kernel
theorem d_Wo_isOdd_10 : decode b_Wo_isOdd 10 = .ok (.iconst 1, 1) := by decide +kernel
theorem d_Wo_isOdd_11 : decode b_Wo_isOdd 11 = .ok (.goto 4, 3) := by decide +kernel
theorem d_Wo_isOdd_14 : decode b_Wo_isOdd 14 = .ok (.iconst 0, 1) := by decide +kernel
theorem d_Wo_isOdd_15 : decode b_Wo_isOdd 15 = .ok (.ireturn, 1) := by decide +kernel
set_option maxHeartbeats 4000000 in
set_option maxRecDepth 100000 in
theorem c_Wo_isOdd (l : Launch) (H : Heap) (a A : Nat) : Met l y_Wo_isOdd w_Wo_isOdd ({ frames := 0, cells := 0, slots := 0, locals := 0 }) (kq_P [.ref a] H (fun U => kq_sL U H a 8 A)) (kq_Q (fun v H1 => v = some (.int (kq_z (decide (A % 2 = 1)))) ∧ H1 = H)) 0 0 (fun _ => False) := by
  refine Met.ofW (cc := b_Wo_isOdd) (maxL := 1) (ret := (some .boolean)) (by decide) rfl ?_
  intro p e s m args below meth c s₁ B0 hml hv
  obtain ⟨rfl, hH, hsa⟩ := hv
  have hx := B0.exec
  have hb := B0.bytes
  have hret := B0.returns
  have hts := atoms_spec (ws := w_Wo_isOdd) B0.pre
  have hown : s.vm.findClass R_Wo = some m.cls := findClass_of_methodNamed B0.named
  have hlocks := B0.notSynchronized
  rw [hH]
  have hl := lv_entry ([.ref a]) (n := 1) (Nat.le_of_ble_eq_true rfl)
  rw [lg_entry_eq]
  generalize (lg_sl ([.ref a]) ++ List.replicate (1 - (lg_sl ([.ref a])).length) Slot.unset).toArray = ls at hl ⊢
  have hl : lv_has ls 1 [(0, .ref a)] := hl
  refine lv_aload_n hx hb d_Wo_isOdd_0 rfl (lv_at hl 0 rfl) ?_
  refine lv_iconst (v := nI 0) hx hb d_Wo_isOdd_1 (by decide) ?_
  refine kq_lald hx hb (hsa) ((by decide)) (by decide) (rfl) d_Wo_isOdd_2 ?_
  refine lv_lconst (v := lN 1) hx hb d_Wo_isOdd_3 (by decide) ?_
  refine lv_land hx hb d_Wo_isOdd_4 ?_
  refine kq_rl (show (lN (kw_d A 0)) &&& (lN 1) = lN (A % 2) from (by rw [show lN 1 = 1 from rfl, wb_a1 (by have := kw_d_lt A 0; omega), kw_d_0]; congr 1; omega)) ?_
  refine lv_lconst (v := lN 0) hx hb d_Wo_isOdd_5 (by decide) ?_
  refine W.lcmp hx hb d_Wo_isOdd_6 ?_
  refine lv_if_eq hx hb d_Wo_isOdd_7 rfl (fun hc => ?_) (fun hc => ?_)
  · have hn : ¬ A % 2 = 1 := by
      have := (kq_cmp_eq (by omega) (by decide)).mp hc
      omega
    refine lv_iconst (v := nI 0) hx hb d_Wo_isOdd_14 (by decide) ?_
    exact W.zret hx hb hret rfl (fun t ht _ => ⟨_, rfl, by rw [kq_z_f hn], ht⟩) (fun q h => by cases h) d_Wo_isOdd_15
  · have hp : A % 2 = 1 := by
      have : ¬ A % 2 = 0 := fun q => hc ((kq_cmp_eq (by omega) (by decide)).mpr q)
      omega
    refine lv_iconst (v := nI 1) hx hb d_Wo_isOdd_10 (by decide) ?_
    refine lv_goto hx hb d_Wo_isOdd_11 rfl ?_
    exact W.zret hx hb hret rfl (fun t ht _ => ⟨_, rfl, by rw [kq_z_t hp], ht⟩) (fun q h => by cases h) d_Wo_isOdd_15
theorem d_Wo_hasBit_0 : decode b_Wo_hasBit 0 = .ok (.aload_n 0, 1) := by decide +kernel
theorem d_Wo_hasBit_1 : decode b_Wo_hasBit 1 = .ok (.iload_n 1, 1) := by decide +kernel
theorem d_Wo_hasBit_2 : decode b_Wo_hasBit 2 = .ok (.bipush 32, 2) := by decide +kernel
theorem d_Wo_hasBit_4 : decode b_Wo_hasBit 4 = .ok (.idiv, 1) := by decide +kernel
theorem d_Wo_hasBit_5 : decode b_Wo_hasBit 5 = .ok (.laload, 1) := by decide +kernel
theorem d_Wo_hasBit_6 : decode b_Wo_hasBit 6 = .ok (.iload_n 1, 1) := by decide +kernel
theorem d_Wo_hasBit_7 : decode b_Wo_hasBit 7 = .ok (.bipush 32, 2) := by decide +kernel
theorem d_Wo_hasBit_9 : decode b_Wo_hasBit 9 = .ok (.irem, 1) := by decide +kernel
theorem d_Wo_hasBit_10 : decode b_Wo_hasBit 10 = .ok (.lushr, 1) := by decide +kernel
theorem d_Wo_hasBit_11 : decode b_Wo_hasBit 11 = .ok (.lconst 1, 1) := by decide +kernel
theorem d_Wo_hasBit_12 : decode b_Wo_hasBit 12 = .ok (.land, 1) := by decide +kernel
theorem d_Wo_hasBit_13 : decode b_Wo_hasBit 13 = .ok (.lconst 0, 1) := by decide +kernel
theorem d_Wo_hasBit_14 : decode b_Wo_hasBit 14 = .ok (.lcmp, 1) := by decide +kernel
theorem d_Wo_hasBit_15 : decode b_Wo_hasBit 15 = .ok (.ifCond .eq 7, 3) := by decide +kernel
theorem d_Wo_hasBit_18 : decode b_Wo_hasBit 18 = .ok (.iconst 1, 1) := by decide +kernel
theorem d_Wo_hasBit_19 : decode b_Wo_hasBit 19 = .ok (.goto 4, 3) := by decide +kernel
theorem d_Wo_hasBit_22 : decode b_Wo_hasBit 22 = .ok (.iconst 0, 1) := by decide +kernel
theorem d_Wo_hasBit_23 : decode b_Wo_hasBit 23 = .ok (.ireturn, 1) := by decide +kernel
set_option maxHeartbeats 4000000 in
set_option maxRecDepth 100000 in
theorem c_Wo_hasBit (l : Launch) (H : Heap) (a A b : Nat) (hb8 : b < 256) : Met l y_Wo_hasBit w_Wo_hasBit ({ frames := 0, cells := 0, slots := 0, locals := 0 }) (kq_P [.ref a, .int (nI b)] H (fun U => kq_sL U H a 8 A)) (kq_Q (fun v H1 => v = some (.int (kq_z (decide (A / 2 ^ b % 2 = 1)))) ∧ H1 = H)) 0 0 (fun _ => False) := by
  refine Met.ofW (cc := b_Wo_hasBit) (maxL := 2) (ret := (some .boolean)) (by decide) rfl ?_
  intro p e s m args below meth c s₁ B0 hml hv
  obtain ⟨rfl, hH, hsa⟩ := hv
  have hx := B0.exec
  have hb := B0.bytes
  have hret := B0.returns
  have hts := atoms_spec (ws := w_Wo_hasBit) B0.pre
  have hown : s.vm.findClass R_Wo = some m.cls := findClass_of_methodNamed B0.named
  have hlocks := B0.notSynchronized
  rw [hH]
  have hl := lv_entry ([.ref a, .int (nI b)]) (n := 2) (Nat.le_of_ble_eq_true rfl)
  rw [lg_entry_eq]
  generalize (lg_sl ([.ref a, .int (nI b)]) ++ List.replicate (2 - (lg_sl ([.ref a, .int (nI b)])).length) Slot.unset).toArray = ls at hl ⊢
  have hl : lv_has ls 2 [(0, .ref a), (1, .int (nI b))] := hl
  refine lv_aload_n hx hb d_Wo_hasBit_0 rfl (lv_at hl 0 rfl) ?_
  refine lv_iload_n hx hb d_Wo_hasBit_1 rfl (lv_at hl 1 rfl) ?_
  refine lv_bipush (v := nI 32) hx hb d_Wo_hasBit_2 (by decide) ?_
  refine lv_idiv hx hb d_Wo_hasBit_4 (by decide) ?_
  refine kq_ri (show nI b / nI 32 = nI (b / 32) from pk_div (a := b) (d := 32) (by omega) (by decide) (by decide)) ?_
  refine kq_lald hx hb (hsa) ((by omega)) (by decide) (rfl) d_Wo_hasBit_5 ?_
  refine lv_iload_n hx hb d_Wo_hasBit_6 rfl (lv_at hl 1 rfl) ?_
  refine lv_bipush (v := nI 32) hx hb d_Wo_hasBit_7 (by decide) ?_
  refine lv_irem hx hb d_Wo_hasBit_9 (by decide) ?_
  refine kq_ri (show nI b - nI b / nI 32 * nI 32 = nI (b % 32) from pk_rem (a := b) (d := 32) (by omega) (by decide) (by decide)) ?_
  refine lv_lushr (v := lN (kw_d A (b / 32) / 2 ^ (b % 32))) hx hb d_Wo_hasBit_10 (wb_shr (by have := kw_d_lt A (b / 32); omega) (by omega)) ?_
  refine lv_lconst (v := lN 1) hx hb d_Wo_hasBit_11 (by decide) ?_
  refine lv_land hx hb d_Wo_hasBit_12 ?_
  refine kq_rl (show (lN (kw_d A (b / 32) / 2 ^ (b % 32))) &&& (lN 1) = lN (A / 2 ^ b % 2) from (by rw [show lN 1 = 1 from rfl, wb_a1 (Nat.lt_of_le_of_lt (Nat.div_le_self _ _) (by have := kw_d_lt A (b / 32); omega)), kw_bit])) ?_
  refine lv_lconst (v := lN 0) hx hb d_Wo_hasBit_13 (by decide) ?_
  refine W.lcmp hx hb d_Wo_hasBit_14 ?_
  refine lv_if_eq hx hb d_Wo_hasBit_15 rfl (fun hc => ?_) (fun hc => ?_)
  · have hn : ¬ A / 2 ^ b % 2 = 1 := by
      have := (kq_cmp_eq (by omega) (by decide)).mp hc
      omega
    refine lv_iconst (v := nI 0) hx hb d_Wo_hasBit_22 (by decide) ?_
    exact W.zret hx hb hret rfl (fun t ht _ => ⟨_, rfl, by rw [kq_z_f hn], ht⟩) (fun q h => by cases h) d_Wo_hasBit_23
  · have hp : A / 2 ^ b % 2 = 1 := by
      have : ¬ A / 2 ^ b % 2 = 0 := fun q => hc ((kq_cmp_eq (by omega) (by decide)).mpr q)
      omega
    refine lv_iconst (v := nI 1) hx hb d_Wo_hasBit_18 (by decide) ?_
    refine lv_goto hx hb d_Wo_hasBit_19 rfl ?_
    exact W.zret hx hb hret rfl (fun t ht _ => ⟨_, rfl, by rw [kq_z_t hp], ht⟩) (fun q h => by cases h) d_Wo_hasBit_23
