/-! KeyCurve: its world; register, spot, prime, set, get, add, subtract, multiply, invert, root, take, same (own rows). -/
def kx3 (r : Int32) : Nat := r.toBitVec.toNat % 4
def kx7 (r : Int32) : Nat := r.toBitVec.toNat % 8
theorem kx3_lt (r : Int32) : kx3 r < 4 := Nat.mod_lt _ (by decide)
theorem kx7_lt (r : Int32) : kx7 r < 8 := Nat.mod_lt _ (by decide)
theorem kx_and3 (r : Int32) : r &&& nI 3 = nI (kx3 r) := pk_and r 2 rfl
theorem kx_and7 (r : Int32) : r &&& nI 7 = nI (kx7 r) := pk_and r 3 rfl
theorem kx_mask (x : Int32) : x.toInt64 &&& lN 4294967295 = lN x.toBitVec.toNat := by
  apply wb_inj
  rw [Int64.toBitVec_and, Int32.toBitVec_toInt64, wb_tb, wb_tb]
  apply BitVec.eq_of_getLsbD_eq
  intro i hi
  rw [BitVec.getLsbD_and, BitVec.getLsbD_ofNat, BitVec.getLsbD_ofNat, show (4294967295 : Nat) = 2 ^ 32 - 1 by decide, Nat.testBit_two_pow_sub_one, BitVec.getLsbD_signExtend]
  by_cases h : i < 32
  · simp [h, hi, BitVec.getLsbD]
  · have e : x.toBitVec.toNat.testBit i = false := Nat.testBit_lt_two_pow (Nat.lt_of_lt_of_le x.toBitVec.isLt (Nat.pow_le_pow_right (by decide) (by omega)))
    simp [h, e]
/-- the prime by the flag -/
def kx_h (o : Nat) (d : Bool) : Nat := if d = true then o + 26 else o + 19
def kx_a (A : Nat → Nat) (d : Bool) : Nat := if d = true then A 7 else A 0
def kx_g (A : Nat → Nat) (d : Bool) : Nat := if d = true then A 8 else A 6
def kx_w (d : Bool) : Nat := if d = true then 5 else 2
def kx_m (d : Bool) : Nat := if d = true then kN else kP
def kx_G (d : Bool) : Nat := if d = true then kG_N else kG_P
/-- a KeyCurve at o: its four registers, four spots with the flags bs, two primes, the curve -/
def kr_O (E : kr_E) (A : Nat → Nat) (o : Nat) (bs : Nat → Bool) : Prop := va_P (kr_D E) kr_cl [(o, .inr (3, [.ref (o + 1), .ref (o + 6), .ref (o + 19), .ref (o + 26), .ref (o + 33)]))] (kr_H E) ∧ ¬ kr_L E o ∧ (¬ kr_L E (o + 1) ∧ ¬ kr_L E (o + 6)) ∧ kr_P E (o + 19) (A 0) (A 6) 2 kP kG_P ∧ kr_P E (o + 26) (A 7) (A 8) 5 kN kG_N ∧ kr_V E (o + 33) (o + 19) ∧ (∀ j, j < 4 → kr_out E (o + 2 + j)) ∧ ∀ j, j < 4 → kr_Sp E (o + 7 + 3 * j) (bs j)
theorem kr_O.pr {E : kr_E} {A : Nat → Nat} {o : Nat} {bs : Nat → Bool} (h : kr_O E A o bs) (d : Bool) : kr_P E (kx_h o d) (kx_a A d) (kx_g A d) (kx_w d) (kx_m d) (kx_G d) := by
  cases d with
  | false => exact h.2.2.2.1
  | true => exact h.2.2.2.2.1
def kr_K (E : kr_E) (A : Nat → Nat) (o : Nat) (U : State) : Prop := kr_C E A U ∧ kq_r U (.array .long) (kr_H E) (o + 1) 4 (fun i => .ref (o + 2 + i)) ∧ kq_r U (.object "KeyCurve$Spot") (kr_H E) (o + 6) 4 (fun i => .ref (o + 7 + 3 * i))
theorem kr_K_s2 (E : kr_E) (A : Nat → Nat) (o : Nat) : kq_s2 (kr_K E A o) := (kr_C_s2 E A).both (kq_st_r.two.both kq_st_r.two)
section KAA
variable {p : Program} {l : Launch} {e : Env} {R : Room} {s : State} {m : MethodId} {args : Array Value} {below : List Frame} {meth : Method} {c : Code} {H : Heap} {locs : List Loc} {cells slots : Nat} {Q : State → Prop}
variable {cc : ByteArray} {pc : Nat} {ls : Array Slot} {rest : List Value}
theorem kq_aald (hexec : p.tables.exec = Jvm.exec) (hb : c.code = cc) {a n : Nat} {ty : FieldType} {f : Nat → Value} (h : kq_r s ty H a n f) (hty : ty.isReference = true) {j : Nat} (hj : j < n) (hn : n < 2147483648) {v : Value} (hv : f j = v) (hdg : decode cc pc = .ok (.aaload, 1))
    (kk : W p l e R s m args below meth c H locs cells slots Q (F0 m (pc + 1) ls (v :: rest))) : W p l e R s m args below meth c H locs cells slots Q (F0 m pc ls (.int (nI j) :: .ref a :: rest)) := by
  obtain ⟨cell, h1, h2, h3, h4, h5⟩ := h
  exact W.aald (v := v) hexec hb h1 h2 hty h3 (kq_in hj hn h4) (by rw [nI_clamp (by omega), h5 j hj, hv]) rfl rfl hdg kk
end KAA
theorem d_Ke_register_0 : decode b_Ke_register 0 = .ok (.aload_n 0, 1) := by decide +kernel
theorem d_Ke_register_1 : decode b_Ke_register 1 = .ok (.getfield 11, 3) := by decide +kernel
theorem d_Ke_register_4 : decode b_Ke_register 4 = .ok (.iload_n 1, 1) := by decide +kernel
theorem d_Ke_register_5 : decode b_Ke_register 5 = .ok (.iconst 3, 1) := by decide +kernel
theorem d_Ke_register_6 : decode b_Ke_register 6 = .ok (.iand, 1) := by decide +kernel
theorem d_Ke_register_7 : decode b_Ke_register 7 = .ok (.aaload, 1) := by decide +kernel
theorem d_Ke_register_8 : decode b_Ke_register 8 = .ok (.areturn, 1) := by decide +kernel
set_option maxHeartbeats 4000000 in
set_option maxRecDepth 100000 in
theorem c_Ke_register (l : Launch) (E : kr_E) (A : Nat → Nat) (o : Nat) (bs : Nat → Bool) (v : Nat → Nat) (H : Heap) (hE : kr_ok E) (hA : kr_A E A) (hO : kr_O E A o bs) (hW : kr_W E v H) (r : Int32) : Met l y_Ke_register w_Ke_register ({ frames := 0, cells := 0, slots := 0, locals := 0 }) (kq_P [.ref o, .int r] H (kr_K E A o)) (kq_Q (fun o1 H1 => o1 = some (.ref (o + 2 + kx3 r)) ∧ H1 = H)) 0 0 (fun _ => False) := by
  refine Met.ofW (cc := b_Ke_register) (maxL := 2) (ret := (some (.array .long))) (by decide) rfl ?_
  intro p e s m args below meth c s₁ B0 hml hv
  obtain ⟨rfl, hH, hKK⟩ := hv
  have hx := B0.exec
  have hb := B0.bytes
  have hret := B0.returns
  have hts := atoms_spec (ws := w_Ke_register) B0.pre
  have hown : s.vm.findClass R_Ke = some m.cls := findClass_of_methodNamed B0.named
  have hlocks := B0.notSynchronized
  rw [hH]
  have hl := lv_entry ([.ref o, .int r]) (n := 2) (Nat.le_of_ble_eq_true rfl)
  rw [lg_entry_eq]
  generalize (lg_sl ([.ref o, .int r]) ++ List.replicate (2 - (lg_sl ([.ref o, .int r])).length) Slot.unset).toArray = ls at hl ⊢
  have hl : lv_has ls 2 [(0, .ref o), (1, .int r)] := hl
  have hB := hKK.1.1
  have hT := kr_T hE hB
  have hK := hB.1
  have hOo := kr_obj hW hO.1 hO.2.1
  have har := hKK.2.1.other (hW.2.2.1 (o + 1) hO.2.2.1.1)
  refine lv_aload_n hx hb d_Ke_register_0 rfl (lv_at hl 0 rfl) ?_
  refine kq_get hx hb hts kt_F_Ke hown hK hOo rfl 0 (by decide) kt_w136 rfl d_Ke_register_1 ?_
  refine lv_iload_n hx hb d_Ke_register_4 rfl (lv_at hl 1 rfl) ?_
  refine lv_iconst (v := nI 3) hx hb d_Ke_register_5 (by decide) ?_
  refine lv_iand hx hb d_Ke_register_6 ?_
  refine kq_ri (show r &&& (nI 3) = nI (kx3 r) from kx_and3 r) ?_
  refine kq_aald hx hb (har) rfl (kx3_lt r) (by decide) (rfl) d_Ke_register_7 ?_
  exact W.aret hx hb hret (by first | exact Or.inl ⟨_, rfl⟩ | exact Or.inr ⟨_, rfl⟩) (Or.inr ⟨_, rfl⟩) (fun t ht _ => ⟨_, rfl, rfl, ht⟩) (fun q h => by cases h) d_Ke_register_8
theorem d_Ke_spot_0 : decode b_Ke_spot 0 = .ok (.aload_n 0, 1) := by decide +kernel
theorem d_Ke_spot_1 : decode b_Ke_spot 1 = .ok (.getfield 16, 3) := by decide +kernel
theorem d_Ke_spot_4 : decode b_Ke_spot 4 = .ok (.iload_n 1, 1) := by decide +kernel
theorem d_Ke_spot_5 : decode b_Ke_spot 5 = .ok (.iconst 3, 1) := by decide +kernel
theorem d_Ke_spot_6 : decode b_Ke_spot 6 = .ok (.iand, 1) := by decide +kernel
theorem d_Ke_spot_7 : decode b_Ke_spot 7 = .ok (.aaload, 1) := by decide +kernel
theorem d_Ke_spot_8 : decode b_Ke_spot 8 = .ok (.areturn, 1) := by decide +kernel
set_option maxHeartbeats 4000000 in
set_option maxRecDepth 100000 in
theorem c_Ke_spot (l : Launch) (E : kr_E) (A : Nat → Nat) (o : Nat) (bs : Nat → Bool) (v : Nat → Nat) (H : Heap) (hE : kr_ok E) (hA : kr_A E A) (hO : kr_O E A o bs) (hW : kr_W E v H) (r : Int32) : Met l y_Ke_spot w_Ke_spot ({ frames := 0, cells := 0, slots := 0, locals := 0 }) (kq_P [.ref o, .int r] H (kr_K E A o)) (kq_Q (fun o1 H1 => o1 = some (.ref (o + 7 + 3 * kx3 r)) ∧ H1 = H)) 0 0 (fun _ => False) := by
  refine Met.ofW (cc := b_Ke_spot) (maxL := 2) (ret := (some (.object "KeyCurve$Spot"))) (by decide) rfl ?_
  intro p e s m args below meth c s₁ B0 hml hv
  obtain ⟨rfl, hH, hKK⟩ := hv
  have hx := B0.exec
  have hb := B0.bytes
  have hret := B0.returns
  have hts := atoms_spec (ws := w_Ke_spot) B0.pre
  have hown : s.vm.findClass R_Ke = some m.cls := findClass_of_methodNamed B0.named
  have hlocks := B0.notSynchronized
  rw [hH]
  have hl := lv_entry ([.ref o, .int r]) (n := 2) (Nat.le_of_ble_eq_true rfl)
  rw [lg_entry_eq]
  generalize (lg_sl ([.ref o, .int r]) ++ List.replicate (2 - (lg_sl ([.ref o, .int r])).length) Slot.unset).toArray = ls at hl ⊢
  have hl : lv_has ls 2 [(0, .ref o), (1, .int r)] := hl
  have hB := hKK.1.1
  have hT := kr_T hE hB
  have hK := hB.1
  have hOo := kr_obj hW hO.1 hO.2.1
  have har := hKK.2.2.other (hW.2.2.1 (o + 6) hO.2.2.1.2)
  refine lv_aload_n hx hb d_Ke_spot_0 rfl (lv_at hl 0 rfl) ?_
  refine kq_get hx hb hts kt_F_Ke hown hK hOo rfl 1 (by decide) kt_w137 rfl d_Ke_spot_1 ?_
  refine lv_iload_n hx hb d_Ke_spot_4 rfl (lv_at hl 1 rfl) ?_
  refine lv_iconst (v := nI 3) hx hb d_Ke_spot_5 (by decide) ?_
  refine lv_iand hx hb d_Ke_spot_6 ?_
  refine kq_ri (show r &&& (nI 3) = nI (kx3 r) from kx_and3 r) ?_
  refine kq_aald hx hb (har) rfl (kx3_lt r) (by decide) (rfl) d_Ke_spot_7 ?_
  exact W.aret hx hb hret (by first | exact Or.inl ⟨_, rfl⟩ | exact Or.inr ⟨_, rfl⟩) (Or.inr ⟨_, rfl⟩) (fun t ht _ => ⟨_, rfl, rfl, ht⟩) (fun q h => by cases h) d_Ke_spot_8
theorem d_Ke_prime_0 : decode b_Ke_prime 0 = .ok (.iload_n 1, 1) := by decide +kernel
theorem d_Ke_prime_1 : decode b_Ke_prime 1 = .ok (.ifCond .eq 10, 3) := by decide +kernel
theorem d_Ke_prime_4 : decode b_Ke_prime 4 = .ok (.aload_n 0, 1) := by decide +kernel
theorem d_Ke_prime_5 : decode b_Ke_prime 5 = .ok (.getfield 43, 3) := by decide +kernel
theorem d_Ke_prime_8 : decode b_Ke_prime 8 = .ok (.goto 7, 3) := by decide +kernel
theorem d_Ke_prime_11 : decode b_Ke_prime 11 = .ok (.aload_n 0, 1) := by decide +kernel
theorem d_Ke_prime_12 : decode b_Ke_prime 12 = .ok (.getfield 33, 3) := by decide +kernel
theorem d_Ke_prime_15 : decode b_Ke_prime 15 = .ok (.areturn, 1) := by decide +kernel
set_option maxHeartbeats 4000000 in
set_option maxRecDepth 100000 in
theorem c_Ke_prime (l : Launch) (E : kr_E) (A : Nat → Nat) (o : Nat) (bs : Nat → Bool) (v : Nat → Nat) (H : Heap) (hE : kr_ok E) (hA : kr_A E A) (hO : kr_O E A o bs) (hW : kr_W E v H) (d : Bool) : Met l y_Ke_prime w_Ke_prime ({ frames := 0, cells := 0, slots := 0, locals := 0 }) (kq_P [.ref o, .int (kq_z d)] H (kr_K E A o)) (kq_Q (fun o1 H1 => o1 = some (.ref (kx_h o d)) ∧ H1 = H)) 0 0 (fun _ => False) := by
  refine Met.ofW (cc := b_Ke_prime) (maxL := 2) (ret := (some (.object "KeyCurve$Prime"))) (by decide) rfl ?_
  intro p e s m args below meth c s₁ B0 hml hv
  obtain ⟨rfl, hH, hKK⟩ := hv
  have hx := B0.exec
  have hb := B0.bytes
  have hret := B0.returns
  have hts := atoms_spec (ws := w_Ke_prime) B0.pre
  have hown : s.vm.findClass R_Ke = some m.cls := findClass_of_methodNamed B0.named
  have hlocks := B0.notSynchronized
  rw [hH]
  have hl := lv_entry ([.ref o, .int (kq_z d)]) (n := 2) (Nat.le_of_ble_eq_true rfl)
  rw [lg_entry_eq]
  generalize (lg_sl ([.ref o, .int (kq_z d)]) ++ List.replicate (2 - (lg_sl ([.ref o, .int (kq_z d)])).length) Slot.unset).toArray = ls at hl ⊢
  have hl : lv_has ls 2 [(0, .ref o), (1, .int (kq_z d))] := hl
  have hB := hKK.1.1
  have hT := kr_T hE hB
  have hK := hB.1
  have hOo := kr_obj hW hO.1 hO.2.1
  refine lv_iload_n hx hb d_Ke_prime_0 rfl (lv_at hl 1 rfl) ?_
  refine lv_if_eq hx hb d_Ke_prime_1 rfl (fun hc0 => ?_) (fun hc0 => ?_)
  · have hd := kq_z_b0 hc0
    subst hd
    refine lv_aload_n hx hb d_Ke_prime_11 rfl (lv_at hl 0 rfl) ?_
    refine kq_get hx hb hts kt_F_Ke hown hK hOo rfl 2 (by decide) kt_w138 rfl d_Ke_prime_12 ?_
    exact W.aret hx hb hret (Or.inl ⟨_, rfl⟩) (Or.inr ⟨_, rfl⟩) (fun t ht _ => ⟨_, rfl, rfl, ht⟩) (fun q h => by cases h) d_Ke_prime_15
  · have hd := kq_z_b1 hc0
    subst hd
    refine lv_aload_n hx hb d_Ke_prime_4 rfl (lv_at hl 0 rfl) ?_
    refine kq_get hx hb hts kt_F_Ke hown hK hOo rfl 3 (by decide) kt_w139 rfl d_Ke_prime_5 ?_
    refine lv_goto hx hb d_Ke_prime_8 rfl ?_
    exact W.aret hx hb hret (Or.inl ⟨_, rfl⟩) (Or.inr ⟨_, rfl⟩) (fun t ht _ => ⟨_, rfl, rfl, ht⟩) (fun q h => by cases h) d_Ke_prime_15
theorem d_Ke_get_0 : decode b_Ke_get 0 = .ok (.aload_n 0, 1) := by decide +kernel
theorem d_Ke_get_1 : decode b_Ke_get 1 = .ok (.iload_n 1, 1) := by decide +kernel
theorem d_Ke_get_2 : decode b_Ke_get 2 = .ok (.invokevirtual 55, 3) := by decide +kernel
theorem d_Ke_get_5 : decode b_Ke_get 5 = .ok (.iload_n 2, 1) := by decide +kernel
theorem d_Ke_get_6 : decode b_Ke_get 6 = .ok (.bipush 7, 2) := by decide +kernel
theorem d_Ke_get_8 : decode b_Ke_get 8 = .ok (.iand, 1) := by decide +kernel
theorem d_Ke_get_9 : decode b_Ke_get 9 = .ok (.laload, 1) := by decide +kernel
theorem d_Ke_get_10 : decode b_Ke_get 10 = .ok (.l2i, 1) := by decide +kernel
theorem d_Ke_get_11 : decode b_Ke_get 11 = .ok (.ireturn, 1) := by decide +kernel
set_option maxHeartbeats 4000000 in
set_option maxRecDepth 100000 in
theorem c_Ke_get (l : Launch) (E : kr_E) (A : Nat → Nat) (o : Nat) (bs : Nat → Bool) (v : Nat → Nat) (H : Heap) (hE : kr_ok E) (hA : kr_A E A) (hO : kr_O E A o bs) (hW : kr_W E v H) (r k : Int32) : Met l y_Ke_get w_Ke_get ({ frames := 1, cells := 0, slots := 0, locals := 21 }) (kq_P [.ref o, .int r, .int k] H (kr_K E A o)) (kq_Q (fun o1 H1 => o1 = some (.int (nI (kw_d (v (o + 2 + kx3 r)) (kx7 k)))) ∧ kr_W E v H1)) 0 0 (fun _ => False) := by
  refine Met.ofW (cc := b_Ke_get) (maxL := 3) (ret := (some .int)) (by decide) rfl ?_
  intro p e s m args below meth c s₁ B0 hml hv
  obtain ⟨rfl, hH, hKK⟩ := hv
  have hx := B0.exec
  have hb := B0.bytes
  have hret := B0.returns
  have hts := atoms_spec (ws := w_Ke_get) B0.pre
  have hown : s.vm.findClass R_Ke = some m.cls := findClass_of_methodNamed B0.named
  have hlocks := B0.notSynchronized
  rw [hH]
  have hl := lv_entry ([.ref o, .int r, .int k]) (n := 3) (Nat.le_of_ble_eq_true rfl)
  rw [lg_entry_eq]
  generalize (lg_sl ([.ref o, .int r, .int k]) ++ List.replicate (3 - (lg_sl ([.ref o, .int r, .int k])).length) Slot.unset).toArray = ls at hl ⊢
  have hl : lv_has ls 3 [(0, .ref o), (1, .int r), (2, .int k)] := hl
  have hB := hKK.1.1
  have hT := kr_T hE hB
  have hK := hB.1
  have hOo := kr_obj hW hO.1 hO.2.1
  have hsr := kr_src hE hW hB (Or.inl (hO.2.2.2.2.2.2.1 (kx3 r) (kx3_lt r)))
  refine lv_aload_n hx hb d_Ke_get_0 rfl (lv_at hl 0 rfl) ?_
  refine lv_iload_n hx hb d_Ke_get_1 rfl (lv_at hl 1 rfl) ?_
  refine kq_call (va_runV (As := [.int r]) (rest := []) ⟨hx, hb, hml, hown, hts⟩ (c_Ke_register l E A o bs v H hE hA hO hW r) (cwV 1 hts (kt_inV kt_w159 kt_w156 kt_w158 kt_s0 kt_w1) rfl rfl rfl (by decide +kernel) ⟨Nat.le_of_ble_eq_true rfl, Nat.le_of_ble_eq_true rfl⟩) (kq_p2V (kr_K_s2 E A o) (hKK) (kq_recv hKK.1.1.1 hOo rfl)) rfl rfl hl.1 rfl (lv_room (Nat.le_of_ble_eq_true rfl)) d_Ke_get_2 ⟨Nat.zero_le _, Nat.zero_le _⟩) (fun v9 H9 L9 hq9 hL9 => ?_)
  obtain ⟨rfl, e9⟩ := hq9
  rw [e9]
  clear e9
  refine W.eq (g2 := F0 m 5 ls [.ref (o + 2 + kx3 r)]) rfl ?_
  refine lv_iload_n hx hb d_Ke_get_5 rfl (lv_at hl 2 rfl) ?_
  refine lv_bipush (v := nI 7) hx hb d_Ke_get_6 (by decide) ?_
  refine lv_iand hx hb d_Ke_get_8 ?_
  refine kq_ri (show k &&& (nI 7) = nI (kx7 k) from kx_and7 k) ?_
  refine kq_lald hx hb (hsr) (kx7_lt k) (by decide) (rfl) d_Ke_get_9 ?_
  refine lv_l2i (v := nI (kw_d (v (o + 2 + kx3 r)) (kx7 k))) hx hb d_Ke_get_10 (lN_i _) ?_
  exact W.iret hx hb hret (fun t ht _ => ⟨_, rfl, rfl, by rw [ht]; exact hW⟩) (t_lL (free := fun _ => False) (fun q h => by cases h) (fun q z => (hL9 q z).elim)) d_Ke_get_11
theorem d_Ke_set_0 : decode b_Ke_set 0 = .ok (.aload_n 0, 1) := by decide +kernel
theorem d_Ke_set_1 : decode b_Ke_set 1 = .ok (.iload_n 1, 1) := by decide +kernel
theorem d_Ke_set_2 : decode b_Ke_set 2 = .ok (.invokevirtual 55, 3) := by decide +kernel
theorem d_Ke_set_5 : decode b_Ke_set 5 = .ok (.astore 4, 2) := by decide +kernel
theorem d_Ke_set_7 : decode b_Ke_set 7 = .ok (.aload 4, 2) := by decide +kernel
theorem d_Ke_set_9 : decode b_Ke_set 9 = .ok (.iload_n 2, 1) := by decide +kernel
theorem d_Ke_set_10 : decode b_Ke_set 10 = .ok (.bipush 7, 2) := by decide +kernel
theorem d_Ke_set_12 : decode b_Ke_set 12 = .ok (.iand, 1) := by decide +kernel
theorem d_Ke_set_13 : decode b_Ke_set 13 = .ok (.laload, 1) := by decide +kernel
theorem d_Ke_set_14 : decode b_Ke_set 14 = .ok (.l2i, 1) := by decide +kernel
theorem d_Ke_set_15 : decode b_Ke_set 15 = .ok (.istore 5, 2) := by decide +kernel
theorem d_Ke_set_17 : decode b_Ke_set 17 = .ok (.aload 4, 2) := by decide +kernel
theorem d_Ke_set_19 : decode b_Ke_set 19 = .ok (.iload_n 2, 1) := by decide +kernel
theorem d_Ke_set_20 : decode b_Ke_set 20 = .ok (.bipush 7, 2) := by decide +kernel
theorem d_Ke_set_22 : decode b_Ke_set 22 = .ok (.iand, 1) := by decide +kernel
theorem d_Ke_set_23 : decode b_Ke_set 23 = .ok (.iload_n 3, 1) := by decide +kernel
theorem d_Ke_set_24 : decode b_Ke_set 24 = .ok (.i2l, 1) := by decide +kernel
theorem d_Ke_set_25 : decode b_Ke_set 25 = .ok (.ldc2_w 59, 3) := by decide +kernel
theorem d_Ke_set_28 : decode b_Ke_set 28 = .ok (.land, 1) := by decide +kernel
theorem d_Ke_set_29 : decode b_Ke_set 29 = .ok (.lastore, 1) := by decide +kernel
theorem d_Ke_set_30 : decode b_Ke_set 30 = .ok (.iload 5, 2) := by decide +kernel
theorem d_Ke_set_32 : decode b_Ke_set 32 = .ok (.ireturn, 1) := by decide +kernel
set_option maxHeartbeats 4000000 in
set_option maxRecDepth 100000 in
theorem c_Ke_set (l : Launch) (E : kr_E) (A : Nat → Nat) (o : Nat) (bs : Nat → Bool) (v : Nat → Nat) (H : Heap) (hE : kr_ok E) (hA : kr_A E A) (hO : kr_O E A o bs) (hW : kr_W E v H) (r k x : Int32) : Met l y_Ke_set w_Ke_set ({ frames := 1, cells := 0, slots := 0, locals := 21 }) (kq_P [.ref o, .int r, .int k, .int x] H (kr_K E A o)) (kq_Q (fun o1 H1 => o1 = some (.int (nI (kw_d (v (o + 2 + kx3 r)) (kx7 k)))) ∧ kr_W E (va_up v (o + 2 + kx3 r) (kw_s (v (o + 2 + kx3 r)) (kx7 k) x.toBitVec.toNat)) H1)) 0 0 (fun q => q = o + 2 + kx3 r) := by
  refine Met.ofW (cc := b_Ke_set) (maxL := 6) (ret := (some .int)) (by decide) rfl ?_
  intro p e s m args below meth c s₁ B0 hml hv
  obtain ⟨rfl, hH, hKK⟩ := hv
  have hx := B0.exec
  have hb := B0.bytes
  have hret := B0.returns
  have hts := atoms_spec (ws := w_Ke_set) B0.pre
  have hown : s.vm.findClass R_Ke = some m.cls := findClass_of_methodNamed B0.named
  have hlocks := B0.notSynchronized
  rw [hH]
  have hl := lv_entry ([.ref o, .int r, .int k, .int x]) (n := 6) (Nat.le_of_ble_eq_true rfl)
  rw [lg_entry_eq]
  generalize (lg_sl ([.ref o, .int r, .int k, .int x]) ++ List.replicate (6 - (lg_sl ([.ref o, .int r, .int k, .int x])).length) Slot.unset).toArray = ls at hl ⊢
  have hl : lv_has ls 6 [(0, .ref o), (1, .int r), (2, .int k), (3, .int x)] := hl
  have hB := hKK.1.1
  have hT := kr_T hE hB
  have hK := hB.1
  have hOo := kr_obj hW hO.1 hO.2.1
  have hro := hO.2.2.2.2.2.2.1 (kx3 r) (kx3_lt r)
  have hsr := kr_src hE hW hB (Or.inl hro)
  have hlr := kr_lt hE hW (Or.inl hro)
  have hxl : x.toBitVec.toNat < 4294967296 := x.toBitVec.isLt
  refine lv_aload_n hx hb d_Ke_set_0 rfl (lv_at hl 0 rfl) ?_
  refine lv_iload_n hx hb d_Ke_set_1 rfl (lv_at hl 1 rfl) ?_
  refine kq_call (va_runV (As := [.int r]) (rest := []) ⟨hx, hb, hml, hown, hts⟩ (c_Ke_register l E A o bs v H hE hA hO hW r) (cwV 1 hts (kt_inV kt_w159 kt_w156 kt_w158 kt_s0 kt_w1) rfl rfl rfl (by decide +kernel) ⟨Nat.le_of_ble_eq_true rfl, Nat.le_of_ble_eq_true rfl⟩) (kq_p2V (kr_K_s2 E A o) (hKK) (kq_recv hKK.1.1.1 hOo rfl)) rfl rfl hl.1 rfl (lv_room (Nat.le_of_ble_eq_true rfl)) d_Ke_set_2 ⟨Nat.zero_le _, Nat.zero_le _⟩) (fun v9 H9 L9 hq9 hL9 => ?_)
  obtain ⟨rfl, e9⟩ := hq9
  rw [e9]
  clear e9
  refine W.eq (g2 := F0 m 5 ls [.ref (o + 2 + kx3 r)]) rfl ?_
  refine lv_astore hx hb d_Ke_set_5 hl (by decide) rfl (fun ls hl => ?_)
  have hl : lv_has ls 6 [(4, .ref (o + 2 + kx3 r)), (0, .ref o), (1, .int r), (2, .int k), (3, .int x)] := hl
  refine lv_aload hx hb d_Ke_set_7 (lv_at hl 0 rfl) ?_
  refine lv_iload_n hx hb d_Ke_set_9 rfl (lv_at hl 3 rfl) ?_
  refine lv_bipush (v := nI 7) hx hb d_Ke_set_10 (by decide) ?_
  refine lv_iand hx hb d_Ke_set_12 ?_
  refine kq_ri (show k &&& (nI 7) = nI (kx7 k) from kx_and7 k) ?_
  refine kq_lald hx hb (hsr) (kx7_lt k) (by decide) (rfl) d_Ke_set_13 ?_
  refine lv_l2i (v := nI (kw_d (v (o + 2 + kx3 r)) (kx7 k))) hx hb d_Ke_set_14 (lN_i _) ?_
  refine lv_istore hx hb d_Ke_set_15 hl (by decide) rfl (fun ls hl => ?_)
  have hl : lv_has ls 6 [(5, .int (nI (kw_d (v (o + 2 + kx3 r)) (kx7 k)))), (4, .ref (o + 2 + kx3 r)), (0, .ref o), (1, .int r), (2, .int k), (3, .int x)] := hl
  refine lv_aload hx hb d_Ke_set_17 (lv_at hl 1 rfl) ?_
  refine lv_iload_n hx hb d_Ke_set_19 rfl (lv_at hl 4 rfl) ?_
  refine lv_bipush (v := nI 7) hx hb d_Ke_set_20 (by decide) ?_
  refine lv_iand hx hb d_Ke_set_22 ?_
  refine kq_ri (show k &&& (nI 7) = nI (kx7 k) from kx_and7 k) ?_
  refine lv_iload_n hx hb d_Ke_set_23 rfl (lv_at hl 5 rfl) ?_
  refine lv_i2l (v := x.toInt64) hx hb d_Ke_set_24 (rfl) ?_
  refine lv_ldc2 hx hb hown (v := lN 4294967295) (hts _ (List.mem_cons_of_mem _ kt_w160)) d_Ke_set_25 ?_
  refine lv_land hx hb d_Ke_set_28 ?_
  refine kq_rl (show x.toInt64 &&& (lN 4294967295) = lN x.toBitVec.toNat from kx_mask x) ?_
  refine kq_last hx hb (hT) (kr_row hW hro) (kx7_lt k) (by decide) (hxl) d_Ke_set_29 ?_
  refine lv_iload hx hb d_Ke_set_30 (lv_at hl 0 rfl) ?_
  exact W.iret hx hb hret (fun t ht _ => ⟨_, rfl, rfl, by rw [ht]; exact kr_put hE hW hro (kw_s_lt hlr (kx7_lt k) hxl)⟩) (t_lc (free := fun q => q = o + 2 + kx3 r) (t_lL (free := fun q => q = o + 2 + kx3 r) (fun q h => by cases h) (fun q z => (hL9 q z).elim)) rfl) d_Ke_set_32
theorem d_Ke_add_0 : decode b_Ke_add 0 = .ok (.aload_n 0, 1) := by decide +kernel
theorem d_Ke_add_1 : decode b_Ke_add 1 = .ok (.iload 4, 2) := by decide +kernel
theorem d_Ke_add_3 : decode b_Ke_add 3 = .ok (.invokevirtual 61, 3) := by decide +kernel
theorem d_Ke_add_6 : decode b_Ke_add 6 = .ok (.aload_n 0, 1) := by decide +kernel
theorem d_Ke_add_7 : decode b_Ke_add 7 = .ok (.iload_n 1, 1) := by decide +kernel
theorem d_Ke_add_8 : decode b_Ke_add 8 = .ok (.invokevirtual 55, 3) := by decide +kernel
theorem d_Ke_add_11 : decode b_Ke_add 11 = .ok (.aload_n 0, 1) := by decide +kernel
theorem d_Ke_add_12 : decode b_Ke_add 12 = .ok (.iload_n 2, 1) := by decide +kernel
theorem d_Ke_add_13 : decode b_Ke_add 13 = .ok (.invokevirtual 55, 3) := by decide +kernel
theorem d_Ke_add_16 : decode b_Ke_add 16 = .ok (.aload_n 0, 1) := by decide +kernel
theorem d_Ke_add_17 : decode b_Ke_add 17 = .ok (.iload_n 3, 1) := by decide +kernel
theorem d_Ke_add_18 : decode b_Ke_add 18 = .ok (.invokevirtual 55, 3) := by decide +kernel
theorem d_Ke_add_21 : decode b_Ke_add 21 = .ok (.invokevirtual 65, 3) := by decide +kernel
theorem d_Ke_add_24 : decode b_Ke_add 24 = .ok (.return_, 1) := by decide +kernel
set_option maxHeartbeats 4000000 in
set_option maxRecDepth 100000 in
theorem c_Ke_add (l : Launch) (E : kr_E) (A : Nat → Nat) (o : Nat) (bs : Nat → Bool) (v : Nat → Nat) (H : Heap) (hE : kr_ok E) (hA : kr_A E A) (hO : kr_O E A o bs) (hW : kr_W E v H) (r a b : Int32) (d : Bool) : Met l y_Ke_add w_Ke_add ({ frames := 3, cells := 0, slots := 0, locals := 77 }) (kq_P [.ref o, .int r, .int a, .int b, .int (kq_z d)] H (kr_K E A o)) (kq_Q (fun o1 H1 => o1 = none ∧ ∃ w : Nat → Nat, kr_W E w H1 ∧ w (o + 2 + kx3 r) = (v (o + 2 + kx3 a) + v (o + 2 + kx3 b)) % kx_m d ∧ ∀ q, q ≠ o + 2 + kx3 r → q ≠ kx_h o d + 1 → q ≠ kx_h o d + 2 → w q = v q)) 0 0 (fun q => q = o + 2 + kx3 r ∨ q = kx_h o d + 1 ∨ q = kx_h o d + 2) := by
  refine Met.ofW (cc := b_Ke_add) (maxL := 5) (ret := none) (by decide) rfl ?_
  intro p e s m args below meth c s₁ B0 hml hv
  obtain ⟨rfl, hH, hKK⟩ := hv
  have hx := B0.exec
  have hb := B0.bytes
  have hret := B0.returns
  have hts := atoms_spec (ws := w_Ke_add) B0.pre
  have hown : s.vm.findClass R_Ke = some m.cls := findClass_of_methodNamed B0.named
  have hlocks := B0.notSynchronized
  rw [hH]
  have hl := lv_entry ([.ref o, .int r, .int a, .int b, .int (kq_z d)]) (n := 5) (Nat.le_of_ble_eq_true rfl)
  rw [lg_entry_eq]
  generalize (lg_sl ([.ref o, .int r, .int a, .int b, .int (kq_z d)]) ++ List.replicate (5 - (lg_sl ([.ref o, .int r, .int a, .int b, .int (kq_z d)])).length) Slot.unset).toArray = ls at hl ⊢
  have hl : lv_has ls 5 [(0, .ref o), (1, .int r), (2, .int a), (3, .int b), (4, .int (kq_z d))] := hl
  have hB := hKK.1.1
  have hT := kr_T hE hB
  have hK := hB.1
  have hOo := kr_obj hW hO.1 hO.2.1
  have hro := hO.2.2.2.2.2.2.1 (kx3 r) (kx3_lt r)
  have hao := hO.2.2.2.2.2.2.1 (kx3 a) (kx3_lt a)
  have hbo := hO.2.2.2.2.2.2.1 (kx3 b) (kx3_lt b)
  have hP := hO.pr d
  have hOp := kr_obj hW hP.1 hP.2.1
  refine lv_aload_n hx hb d_Ke_add_0 rfl (lv_at hl 0 rfl) ?_
  refine lv_iload hx hb d_Ke_add_1 (lv_at hl 4 rfl) ?_
  refine kq_call (va_runV (As := [.int (kq_z d)]) (rest := []) ⟨hx, hb, hml, hown, hts⟩ (c_Ke_prime l E A o bs v H hE hA hO hW d) (cwV 1 hts (kt_inV kt_w172 kt_w169 kt_w171 kt_s1 kt_w1) rfl rfl rfl (by decide +kernel) ⟨Nat.le_of_ble_eq_true rfl, Nat.le_of_ble_eq_true rfl⟩) (kq_p2V (kr_K_s2 E A o) (hKK) (kq_recv hB.1 hOo rfl)) rfl rfl hl.1 rfl (lv_room (Nat.le_of_ble_eq_true rfl)) d_Ke_add_3 ⟨Nat.zero_le _, Nat.zero_le _⟩) (fun v9 H9 L1 hq9 hL1 => ?_)
  obtain ⟨rfl, e9⟩ := hq9
  rw [e9]
  clear e9
  refine W.eq (g2 := F0 m 6 ls [.ref (kx_h o d)]) rfl ?_
  refine lv_aload_n hx hb d_Ke_add_6 rfl (lv_at hl 0 rfl) ?_
  refine lv_iload_n hx hb d_Ke_add_7 rfl (lv_at hl 1 rfl) ?_
  refine kq_call (va_runV (As := [.int r]) (rest := [.ref (kx_h o d)]) ⟨hx, hb, hml, hown, hts⟩ (c_Ke_register l E A o bs v H hE hA hO hW r) (cwV 1 hts (kt_inV kt_w159 kt_w156 kt_w158 kt_s0 kt_w1) rfl rfl rfl (by decide +kernel) ⟨Nat.le_of_ble_eq_true rfl, Nat.le_of_ble_eq_true rfl⟩) (kq_p2V (kr_K_s2 E A o) (hKK) (kq_recv hKK.1.1.1 hOo rfl)) rfl rfl hl.1 rfl (lv_room (Nat.le_of_ble_eq_true rfl)) d_Ke_add_8 ⟨Nat.zero_le _, Nat.zero_le _⟩) (fun v9 H9 L2 hq9 hL2 => ?_)
  obtain ⟨rfl, e9⟩ := hq9
  rw [e9]
  clear e9
  refine W.eq (g2 := F0 m 11 ls [.ref (o + 2 + kx3 r), .ref (kx_h o d)]) rfl ?_
  refine lv_aload_n hx hb d_Ke_add_11 rfl (lv_at hl 0 rfl) ?_
  refine lv_iload_n hx hb d_Ke_add_12 rfl (lv_at hl 2 rfl) ?_
  refine kq_call (va_runV (As := [.int a]) (rest := [.ref (o + 2 + kx3 r), .ref (kx_h o d)]) ⟨hx, hb, hml, hown, hts⟩ (c_Ke_register l E A o bs v H hE hA hO hW a) (cwV 1 hts (kt_inV kt_w159 kt_w156 kt_w158 kt_s0 kt_w1) rfl rfl rfl (by decide +kernel) ⟨Nat.le_of_ble_eq_true rfl, Nat.le_of_ble_eq_true rfl⟩) (kq_p2V (kr_K_s2 E A o) (hKK) (kq_recv hKK.1.1.1 hOo rfl)) rfl rfl hl.1 rfl (lv_room (Nat.le_of_ble_eq_true rfl)) d_Ke_add_13 ⟨Nat.zero_le _, Nat.zero_le _⟩) (fun v9 H9 L3 hq9 hL3 => ?_)
  obtain ⟨rfl, e9⟩ := hq9
  rw [e9]
  clear e9
  refine W.eq (g2 := F0 m 16 ls [.ref (o + 2 + kx3 a), .ref (o + 2 + kx3 r), .ref (kx_h o d)]) rfl ?_
  refine lv_aload_n hx hb d_Ke_add_16 rfl (lv_at hl 0 rfl) ?_
  refine lv_iload_n hx hb d_Ke_add_17 rfl (lv_at hl 3 rfl) ?_
  refine kq_call (va_runV (As := [.int b]) (rest := [.ref (o + 2 + kx3 a), .ref (o + 2 + kx3 r), .ref (kx_h o d)]) ⟨hx, hb, hml, hown, hts⟩ (c_Ke_register l E A o bs v H hE hA hO hW b) (cwV 1 hts (kt_inV kt_w159 kt_w156 kt_w158 kt_s0 kt_w1) rfl rfl rfl (by decide +kernel) ⟨Nat.le_of_ble_eq_true rfl, Nat.le_of_ble_eq_true rfl⟩) (kq_p2V (kr_K_s2 E A o) (hKK) (kq_recv hKK.1.1.1 hOo rfl)) rfl rfl hl.1 rfl (lv_room (Nat.le_of_ble_eq_true rfl)) d_Ke_add_18 ⟨Nat.zero_le _, Nat.zero_le _⟩) (fun v9 H9 L4 hq9 hL4 => ?_)
  obtain ⟨rfl, e9⟩ := hq9
  rw [e9]
  clear e9
  refine W.eq (g2 := F0 m 21 ls [.ref (o + 2 + kx3 b), .ref (o + 2 + kx3 a), .ref (o + 2 + kx3 r), .ref (kx_h o d)]) rfl ?_
  refine kq_call (va_runV (As := [.ref (o + 2 + kx3 r), .ref (o + 2 + kx3 a), .ref (o + 2 + kx3 b)]) (rest := []) ⟨hx, hb, hml, hown, hts⟩ (c_Pr_sum l E (kx_h o d) (kx_a A d) (kx_g A d) (kx_w d) (kx_m d) (kx_G d) v H hE hP hW (o + 2 + kx3 r) (o + 2 + kx3 a) (o + 2 + kx3 b) hro (Or.inl hao) (Or.inl hbo)) (cwV 3 hts (kt_inV kt_w176 kt_w173 kt_w174 kt_w175 kt_w3) rfl rfl rfl (by decide +kernel) ⟨Nat.le_of_ble_eq_true rfl, Nat.le_of_ble_eq_true rfl⟩) (kq_preV (kr_st E) (hB) (kq_recv hB.1 hOp rfl)) rfl rfl hl.1 rfl (lv_room (Nat.le_of_ble_eq_true rfl)) d_Ke_add_21 ⟨Nat.zero_le _, Nat.zero_le _⟩) (fun v9 H9 L5 hq9 hL5 => ?_)
  obtain ⟨rfl, hW9⟩ := hq9
  refine W.eq (g2 := F0 m 24 ls []) rfl ?_
  exact W.vret hx hb hret (fun t ht _ => ⟨_, rfl, rfl, _, by rw [ht]; exact hW9, kq_up_at, fun q q1 _ _ => kq_up_ne q1⟩) (t_lL (free := (fun q => q = o + 2 + kx3 r ∨ q = kx_h o d + 1 ∨ q = kx_h o d + 2)) (t_lL (free := (fun q => q = o + 2 + kx3 r ∨ q = kx_h o d + 1 ∨ q = kx_h o d + 2)) (t_lL (free := (fun q => q = o + 2 + kx3 r ∨ q = kx_h o d + 1 ∨ q = kx_h o d + 2)) (t_lL (free := (fun q => q = o + 2 + kx3 r ∨ q = kx_h o d + 1 ∨ q = kx_h o d + 2)) (t_lL (free := (fun q => q = o + 2 + kx3 r ∨ q = kx_h o d + 1 ∨ q = kx_h o d + 2)) (fun q h => by cases h) (fun q z => (hL1 q z).elim)) (fun q z => (hL2 q z).elim)) (fun q z => (hL3 q z).elim)) (fun q z => (hL4 q z).elim)) (fun q z => Or.inl (hL5 q z))) d_Ke_add_24
theorem d_Ke_subtract_0 : decode b_Ke_subtract 0 = .ok (.aload_n 0, 1) := by decide +kernel
theorem d_Ke_subtract_1 : decode b_Ke_subtract 1 = .ok (.iload 4, 2) := by decide +kernel
theorem d_Ke_subtract_3 : decode b_Ke_subtract 3 = .ok (.invokevirtual 61, 3) := by decide +kernel
theorem d_Ke_subtract_6 : decode b_Ke_subtract 6 = .ok (.aload_n 0, 1) := by decide +kernel
theorem d_Ke_subtract_7 : decode b_Ke_subtract 7 = .ok (.iload_n 1, 1) := by decide +kernel
theorem d_Ke_subtract_8 : decode b_Ke_subtract 8 = .ok (.invokevirtual 55, 3) := by decide +kernel
theorem d_Ke_subtract_11 : decode b_Ke_subtract 11 = .ok (.aload_n 0, 1) := by decide +kernel
theorem d_Ke_subtract_12 : decode b_Ke_subtract 12 = .ok (.iload_n 2, 1) := by decide +kernel
theorem d_Ke_subtract_13 : decode b_Ke_subtract 13 = .ok (.invokevirtual 55, 3) := by decide +kernel
theorem d_Ke_subtract_16 : decode b_Ke_subtract 16 = .ok (.aload_n 0, 1) := by decide +kernel
theorem d_Ke_subtract_17 : decode b_Ke_subtract 17 = .ok (.iload_n 3, 1) := by decide +kernel
theorem d_Ke_subtract_18 : decode b_Ke_subtract 18 = .ok (.invokevirtual 55, 3) := by decide +kernel
theorem d_Ke_subtract_21 : decode b_Ke_subtract 21 = .ok (.invokevirtual 69, 3) := by decide +kernel
theorem d_Ke_subtract_24 : decode b_Ke_subtract 24 = .ok (.return_, 1) := by decide +kernel
set_option maxHeartbeats 4000000 in
set_option maxRecDepth 100000 in
theorem c_Ke_subtract (l : Launch) (E : kr_E) (A : Nat → Nat) (o : Nat) (bs : Nat → Bool) (v : Nat → Nat) (H : Heap) (hE : kr_ok E) (hA : kr_A E A) (hO : kr_O E A o bs) (hW : kr_W E v H) (r a b : Int32) (d : Bool) : Met l y_Ke_subtract w_Ke_subtract ({ frames := 3, cells := 0, slots := 0, locals := 77 }) (kq_P [.ref o, .int r, .int a, .int b, .int (kq_z d)] H (kr_K E A o)) (kq_Q (fun o1 H1 => o1 = none ∧ ∃ w : Nat → Nat, kr_W E w H1 ∧ w (o + 2 + kx3 r) = kp_dif (kx_m d) (v (o + 2 + kx3 a)) (v (o + 2 + kx3 b)) ∧ ∀ q, q ≠ o + 2 + kx3 r → q ≠ kx_h o d + 1 → q ≠ kx_h o d + 2 → w q = v q)) 0 0 (fun q => q = o + 2 + kx3 r ∨ q = kx_h o d + 1 ∨ q = kx_h o d + 2) := by
  refine Met.ofW (cc := b_Ke_subtract) (maxL := 5) (ret := none) (by decide) rfl ?_
  intro p e s m args below meth c s₁ B0 hml hv
  obtain ⟨rfl, hH, hKK⟩ := hv
  have hx := B0.exec
  have hb := B0.bytes
  have hret := B0.returns
  have hts := atoms_spec (ws := w_Ke_subtract) B0.pre
  have hown : s.vm.findClass R_Ke = some m.cls := findClass_of_methodNamed B0.named
  have hlocks := B0.notSynchronized
  rw [hH]
  have hl := lv_entry ([.ref o, .int r, .int a, .int b, .int (kq_z d)]) (n := 5) (Nat.le_of_ble_eq_true rfl)
  rw [lg_entry_eq]
  generalize (lg_sl ([.ref o, .int r, .int a, .int b, .int (kq_z d)]) ++ List.replicate (5 - (lg_sl ([.ref o, .int r, .int a, .int b, .int (kq_z d)])).length) Slot.unset).toArray = ls at hl ⊢
  have hl : lv_has ls 5 [(0, .ref o), (1, .int r), (2, .int a), (3, .int b), (4, .int (kq_z d))] := hl
  have hB := hKK.1.1
  have hT := kr_T hE hB
  have hK := hB.1
  have hOo := kr_obj hW hO.1 hO.2.1
  have hro := hO.2.2.2.2.2.2.1 (kx3 r) (kx3_lt r)
  have hao := hO.2.2.2.2.2.2.1 (kx3 a) (kx3_lt a)
  have hbo := hO.2.2.2.2.2.2.1 (kx3 b) (kx3_lt b)
  have hP := hO.pr d
  have hOp := kr_obj hW hP.1 hP.2.1
  refine lv_aload_n hx hb d_Ke_subtract_0 rfl (lv_at hl 0 rfl) ?_
  refine lv_iload hx hb d_Ke_subtract_1 (lv_at hl 4 rfl) ?_
  refine kq_call (va_runV (As := [.int (kq_z d)]) (rest := []) ⟨hx, hb, hml, hown, hts⟩ (c_Ke_prime l E A o bs v H hE hA hO hW d) (cwV 1 hts (kt_inV kt_w172 kt_w169 kt_w171 kt_s1 kt_w1) rfl rfl rfl (by decide +kernel) ⟨Nat.le_of_ble_eq_true rfl, Nat.le_of_ble_eq_true rfl⟩) (kq_p2V (kr_K_s2 E A o) (hKK) (kq_recv hB.1 hOo rfl)) rfl rfl hl.1 rfl (lv_room (Nat.le_of_ble_eq_true rfl)) d_Ke_subtract_3 ⟨Nat.zero_le _, Nat.zero_le _⟩) (fun v9 H9 L1 hq9 hL1 => ?_)
  obtain ⟨rfl, e9⟩ := hq9
  rw [e9]
  clear e9
  refine W.eq (g2 := F0 m 6 ls [.ref (kx_h o d)]) rfl ?_
  refine lv_aload_n hx hb d_Ke_subtract_6 rfl (lv_at hl 0 rfl) ?_
  refine lv_iload_n hx hb d_Ke_subtract_7 rfl (lv_at hl 1 rfl) ?_
  refine kq_call (va_runV (As := [.int r]) (rest := [.ref (kx_h o d)]) ⟨hx, hb, hml, hown, hts⟩ (c_Ke_register l E A o bs v H hE hA hO hW r) (cwV 1 hts (kt_inV kt_w159 kt_w156 kt_w158 kt_s0 kt_w1) rfl rfl rfl (by decide +kernel) ⟨Nat.le_of_ble_eq_true rfl, Nat.le_of_ble_eq_true rfl⟩) (kq_p2V (kr_K_s2 E A o) (hKK) (kq_recv hKK.1.1.1 hOo rfl)) rfl rfl hl.1 rfl (lv_room (Nat.le_of_ble_eq_true rfl)) d_Ke_subtract_8 ⟨Nat.zero_le _, Nat.zero_le _⟩) (fun v9 H9 L2 hq9 hL2 => ?_)
  obtain ⟨rfl, e9⟩ := hq9
  rw [e9]
  clear e9
  refine W.eq (g2 := F0 m 11 ls [.ref (o + 2 + kx3 r), .ref (kx_h o d)]) rfl ?_
  refine lv_aload_n hx hb d_Ke_subtract_11 rfl (lv_at hl 0 rfl) ?_
  refine lv_iload_n hx hb d_Ke_subtract_12 rfl (lv_at hl 2 rfl) ?_
  refine kq_call (va_runV (As := [.int a]) (rest := [.ref (o + 2 + kx3 r), .ref (kx_h o d)]) ⟨hx, hb, hml, hown, hts⟩ (c_Ke_register l E A o bs v H hE hA hO hW a) (cwV 1 hts (kt_inV kt_w159 kt_w156 kt_w158 kt_s0 kt_w1) rfl rfl rfl (by decide +kernel) ⟨Nat.le_of_ble_eq_true rfl, Nat.le_of_ble_eq_true rfl⟩) (kq_p2V (kr_K_s2 E A o) (hKK) (kq_recv hKK.1.1.1 hOo rfl)) rfl rfl hl.1 rfl (lv_room (Nat.le_of_ble_eq_true rfl)) d_Ke_subtract_13 ⟨Nat.zero_le _, Nat.zero_le _⟩) (fun v9 H9 L3 hq9 hL3 => ?_)
  obtain ⟨rfl, e9⟩ := hq9
  rw [e9]
  clear e9
  refine W.eq (g2 := F0 m 16 ls [.ref (o + 2 + kx3 a), .ref (o + 2 + kx3 r), .ref (kx_h o d)]) rfl ?_
  refine lv_aload_n hx hb d_Ke_subtract_16 rfl (lv_at hl 0 rfl) ?_
  refine lv_iload_n hx hb d_Ke_subtract_17 rfl (lv_at hl 3 rfl) ?_
  refine kq_call (va_runV (As := [.int b]) (rest := [.ref (o + 2 + kx3 a), .ref (o + 2 + kx3 r), .ref (kx_h o d)]) ⟨hx, hb, hml, hown, hts⟩ (c_Ke_register l E A o bs v H hE hA hO hW b) (cwV 1 hts (kt_inV kt_w159 kt_w156 kt_w158 kt_s0 kt_w1) rfl rfl rfl (by decide +kernel) ⟨Nat.le_of_ble_eq_true rfl, Nat.le_of_ble_eq_true rfl⟩) (kq_p2V (kr_K_s2 E A o) (hKK) (kq_recv hKK.1.1.1 hOo rfl)) rfl rfl hl.1 rfl (lv_room (Nat.le_of_ble_eq_true rfl)) d_Ke_subtract_18 ⟨Nat.zero_le _, Nat.zero_le _⟩) (fun v9 H9 L4 hq9 hL4 => ?_)
  obtain ⟨rfl, e9⟩ := hq9
  rw [e9]
  clear e9
  refine W.eq (g2 := F0 m 21 ls [.ref (o + 2 + kx3 b), .ref (o + 2 + kx3 a), .ref (o + 2 + kx3 r), .ref (kx_h o d)]) rfl ?_
  refine kq_call (va_runV (As := [.ref (o + 2 + kx3 r), .ref (o + 2 + kx3 a), .ref (o + 2 + kx3 b)]) (rest := []) ⟨hx, hb, hml, hown, hts⟩ (c_Pr_difference l E (kx_h o d) (kx_a A d) (kx_g A d) (kx_w d) (kx_m d) (kx_G d) v H hE hP hW (o + 2 + kx3 r) (o + 2 + kx3 a) (o + 2 + kx3 b) hro (Or.inl hao) (Or.inl hbo)) (cwV 3 hts (kt_inV kt_w198 kt_w195 kt_w196 kt_w197 kt_w3) rfl rfl rfl (by decide +kernel) ⟨Nat.le_of_ble_eq_true rfl, Nat.le_of_ble_eq_true rfl⟩) (kq_preV (kr_st E) (hB) (kq_recv hB.1 hOp rfl)) rfl rfl hl.1 rfl (lv_room (Nat.le_of_ble_eq_true rfl)) d_Ke_subtract_21 ⟨Nat.zero_le _, Nat.zero_le _⟩) (fun v9 H9 L5 hq9 hL5 => ?_)
  obtain ⟨rfl, hW9⟩ := hq9
  refine W.eq (g2 := F0 m 24 ls []) rfl ?_
  exact W.vret hx hb hret (fun t ht _ => ⟨_, rfl, rfl, _, by rw [ht]; exact hW9, kq_up_at, fun q q1 _ _ => kq_up_ne q1⟩) (t_lL (free := (fun q => q = o + 2 + kx3 r ∨ q = kx_h o d + 1 ∨ q = kx_h o d + 2)) (t_lL (free := (fun q => q = o + 2 + kx3 r ∨ q = kx_h o d + 1 ∨ q = kx_h o d + 2)) (t_lL (free := (fun q => q = o + 2 + kx3 r ∨ q = kx_h o d + 1 ∨ q = kx_h o d + 2)) (t_lL (free := (fun q => q = o + 2 + kx3 r ∨ q = kx_h o d + 1 ∨ q = kx_h o d + 2)) (t_lL (free := (fun q => q = o + 2 + kx3 r ∨ q = kx_h o d + 1 ∨ q = kx_h o d + 2)) (fun q h => by cases h) (fun q z => (hL1 q z).elim)) (fun q z => (hL2 q z).elim)) (fun q z => (hL3 q z).elim)) (fun q z => (hL4 q z).elim)) (fun q z => Or.inl (hL5 q z))) d_Ke_subtract_24
theorem d_Ke_multiply_0 : decode b_Ke_multiply 0 = .ok (.aload_n 0, 1) := by decide +kernel
theorem d_Ke_multiply_1 : decode b_Ke_multiply 1 = .ok (.iload 4, 2) := by decide +kernel
theorem d_Ke_multiply_3 : decode b_Ke_multiply 3 = .ok (.invokevirtual 61, 3) := by decide +kernel
theorem d_Ke_multiply_6 : decode b_Ke_multiply 6 = .ok (.aload_n 0, 1) := by decide +kernel
theorem d_Ke_multiply_7 : decode b_Ke_multiply 7 = .ok (.iload_n 1, 1) := by decide +kernel
theorem d_Ke_multiply_8 : decode b_Ke_multiply 8 = .ok (.invokevirtual 55, 3) := by decide +kernel
theorem d_Ke_multiply_11 : decode b_Ke_multiply 11 = .ok (.aload_n 0, 1) := by decide +kernel
theorem d_Ke_multiply_12 : decode b_Ke_multiply 12 = .ok (.iload_n 2, 1) := by decide +kernel
theorem d_Ke_multiply_13 : decode b_Ke_multiply 13 = .ok (.invokevirtual 55, 3) := by decide +kernel
theorem d_Ke_multiply_16 : decode b_Ke_multiply 16 = .ok (.aload_n 0, 1) := by decide +kernel
theorem d_Ke_multiply_17 : decode b_Ke_multiply 17 = .ok (.iload_n 3, 1) := by decide +kernel
theorem d_Ke_multiply_18 : decode b_Ke_multiply 18 = .ok (.invokevirtual 55, 3) := by decide +kernel
theorem d_Ke_multiply_21 : decode b_Ke_multiply 21 = .ok (.invokevirtual 72, 3) := by decide +kernel
theorem d_Ke_multiply_24 : decode b_Ke_multiply 24 = .ok (.return_, 1) := by decide +kernel
set_option maxHeartbeats 4000000 in
set_option maxRecDepth 100000 in
theorem c_Ke_multiply (l : Launch) (E : kr_E) (A : Nat → Nat) (o : Nat) (bs : Nat → Bool) (v : Nat → Nat) (H : Heap) (hE : kr_ok E) (hA : kr_A E A) (hO : kr_O E A o bs) (hW : kr_W E v H) (r a b : Int32) (d : Bool) : Met l y_Ke_multiply w_Ke_multiply ({ frames := 3, cells := 0, slots := 0, locals := 77 }) (kq_P [.ref o, .int r, .int a, .int b, .int (kq_z d)] H (kr_K E A o)) (kq_Q (fun o1 H1 => o1 = none ∧ ∃ w : Nat → Nat, kr_W E w H1 ∧ w (o + 2 + kx3 r) = v (o + 2 + kx3 a) * v (o + 2 + kx3 b) % kx_m d ∧ ∀ q, q ≠ o + 2 + kx3 r → q ≠ kx_h o d + 1 → q ≠ kx_h o d + 2 → w q = v q)) 0 0 (fun q => q = o + 2 + kx3 r ∨ q = kx_h o d + 1 ∨ q = kx_h o d + 2) := by
  refine Met.ofW (cc := b_Ke_multiply) (maxL := 5) (ret := none) (by decide) rfl ?_
  intro p e s m args below meth c s₁ B0 hml hv
  obtain ⟨rfl, hH, hKK⟩ := hv
  have hx := B0.exec
  have hb := B0.bytes
  have hret := B0.returns
  have hts := atoms_spec (ws := w_Ke_multiply) B0.pre
  have hown : s.vm.findClass R_Ke = some m.cls := findClass_of_methodNamed B0.named
  have hlocks := B0.notSynchronized
  rw [hH]
  have hl := lv_entry ([.ref o, .int r, .int a, .int b, .int (kq_z d)]) (n := 5) (Nat.le_of_ble_eq_true rfl)
  rw [lg_entry_eq]
  generalize (lg_sl ([.ref o, .int r, .int a, .int b, .int (kq_z d)]) ++ List.replicate (5 - (lg_sl ([.ref o, .int r, .int a, .int b, .int (kq_z d)])).length) Slot.unset).toArray = ls at hl ⊢
  have hl : lv_has ls 5 [(0, .ref o), (1, .int r), (2, .int a), (3, .int b), (4, .int (kq_z d))] := hl
  have hB := hKK.1.1
  have hT := kr_T hE hB
  have hK := hB.1
  have hOo := kr_obj hW hO.1 hO.2.1
  have hro := hO.2.2.2.2.2.2.1 (kx3 r) (kx3_lt r)
  have hao := hO.2.2.2.2.2.2.1 (kx3 a) (kx3_lt a)
  have hbo := hO.2.2.2.2.2.2.1 (kx3 b) (kx3_lt b)
  have hP := hO.pr d
  have hOp := kr_obj hW hP.1 hP.2.1
  refine lv_aload_n hx hb d_Ke_multiply_0 rfl (lv_at hl 0 rfl) ?_
  refine lv_iload hx hb d_Ke_multiply_1 (lv_at hl 4 rfl) ?_
  refine kq_call (va_runV (As := [.int (kq_z d)]) (rest := []) ⟨hx, hb, hml, hown, hts⟩ (c_Ke_prime l E A o bs v H hE hA hO hW d) (cwV 1 hts (kt_inV kt_w172 kt_w169 kt_w171 kt_s1 kt_w1) rfl rfl rfl (by decide +kernel) ⟨Nat.le_of_ble_eq_true rfl, Nat.le_of_ble_eq_true rfl⟩) (kq_p2V (kr_K_s2 E A o) (hKK) (kq_recv hB.1 hOo rfl)) rfl rfl hl.1 rfl (lv_room (Nat.le_of_ble_eq_true rfl)) d_Ke_multiply_3 ⟨Nat.zero_le _, Nat.zero_le _⟩) (fun v9 H9 L1 hq9 hL1 => ?_)
  obtain ⟨rfl, e9⟩ := hq9
  rw [e9]
  clear e9
  refine W.eq (g2 := F0 m 6 ls [.ref (kx_h o d)]) rfl ?_
  refine lv_aload_n hx hb d_Ke_multiply_6 rfl (lv_at hl 0 rfl) ?_
  refine lv_iload_n hx hb d_Ke_multiply_7 rfl (lv_at hl 1 rfl) ?_
  refine kq_call (va_runV (As := [.int r]) (rest := [.ref (kx_h o d)]) ⟨hx, hb, hml, hown, hts⟩ (c_Ke_register l E A o bs v H hE hA hO hW r) (cwV 1 hts (kt_inV kt_w159 kt_w156 kt_w158 kt_s0 kt_w1) rfl rfl rfl (by decide +kernel) ⟨Nat.le_of_ble_eq_true rfl, Nat.le_of_ble_eq_true rfl⟩) (kq_p2V (kr_K_s2 E A o) (hKK) (kq_recv hKK.1.1.1 hOo rfl)) rfl rfl hl.1 rfl (lv_room (Nat.le_of_ble_eq_true rfl)) d_Ke_multiply_8 ⟨Nat.zero_le _, Nat.zero_le _⟩) (fun v9 H9 L2 hq9 hL2 => ?_)
  obtain ⟨rfl, e9⟩ := hq9
  rw [e9]
  clear e9
  refine W.eq (g2 := F0 m 11 ls [.ref (o + 2 + kx3 r), .ref (kx_h o d)]) rfl ?_
  refine lv_aload_n hx hb d_Ke_multiply_11 rfl (lv_at hl 0 rfl) ?_
  refine lv_iload_n hx hb d_Ke_multiply_12 rfl (lv_at hl 2 rfl) ?_
  refine kq_call (va_runV (As := [.int a]) (rest := [.ref (o + 2 + kx3 r), .ref (kx_h o d)]) ⟨hx, hb, hml, hown, hts⟩ (c_Ke_register l E A o bs v H hE hA hO hW a) (cwV 1 hts (kt_inV kt_w159 kt_w156 kt_w158 kt_s0 kt_w1) rfl rfl rfl (by decide +kernel) ⟨Nat.le_of_ble_eq_true rfl, Nat.le_of_ble_eq_true rfl⟩) (kq_p2V (kr_K_s2 E A o) (hKK) (kq_recv hKK.1.1.1 hOo rfl)) rfl rfl hl.1 rfl (lv_room (Nat.le_of_ble_eq_true rfl)) d_Ke_multiply_13 ⟨Nat.zero_le _, Nat.zero_le _⟩) (fun v9 H9 L3 hq9 hL3 => ?_)
  obtain ⟨rfl, e9⟩ := hq9
  rw [e9]
  clear e9
  refine W.eq (g2 := F0 m 16 ls [.ref (o + 2 + kx3 a), .ref (o + 2 + kx3 r), .ref (kx_h o d)]) rfl ?_
  refine lv_aload_n hx hb d_Ke_multiply_16 rfl (lv_at hl 0 rfl) ?_
  refine lv_iload_n hx hb d_Ke_multiply_17 rfl (lv_at hl 3 rfl) ?_
  refine kq_call (va_runV (As := [.int b]) (rest := [.ref (o + 2 + kx3 a), .ref (o + 2 + kx3 r), .ref (kx_h o d)]) ⟨hx, hb, hml, hown, hts⟩ (c_Ke_register l E A o bs v H hE hA hO hW b) (cwV 1 hts (kt_inV kt_w159 kt_w156 kt_w158 kt_s0 kt_w1) rfl rfl rfl (by decide +kernel) ⟨Nat.le_of_ble_eq_true rfl, Nat.le_of_ble_eq_true rfl⟩) (kq_p2V (kr_K_s2 E A o) (hKK) (kq_recv hKK.1.1.1 hOo rfl)) rfl rfl hl.1 rfl (lv_room (Nat.le_of_ble_eq_true rfl)) d_Ke_multiply_18 ⟨Nat.zero_le _, Nat.zero_le _⟩) (fun v9 H9 L4 hq9 hL4 => ?_)
  obtain ⟨rfl, e9⟩ := hq9
  rw [e9]
  clear e9
  refine W.eq (g2 := F0 m 21 ls [.ref (o + 2 + kx3 b), .ref (o + 2 + kx3 a), .ref (o + 2 + kx3 r), .ref (kx_h o d)]) rfl ?_
  refine kq_call (va_runV (As := [.ref (o + 2 + kx3 r), .ref (o + 2 + kx3 a), .ref (o + 2 + kx3 b)]) (rest := []) ⟨hx, hb, hml, hown, hts⟩ (c_Pr_product l E (kx_h o d) (kx_a A d) (kx_g A d) (kx_w d) (kx_m d) (kx_G d) v H hE hP hW (o + 2 + kx3 r) (o + 2 + kx3 a) (o + 2 + kx3 b) hro (Or.inl hao) (Or.inl hbo)) (cwV 3 hts (kt_inV kt_w206 kt_w203 kt_w204 kt_w205 kt_w3) rfl rfl rfl (by decide +kernel) ⟨Nat.le_of_ble_eq_true rfl, Nat.le_of_ble_eq_true rfl⟩) (kq_preV (kr_st E) (hB) (kq_recv hB.1 hOp rfl)) rfl rfl hl.1 rfl (lv_room (Nat.le_of_ble_eq_true rfl)) d_Ke_multiply_21 ⟨Nat.zero_le _, Nat.zero_le _⟩) (fun v9 H9 L5 hq9 hL5 => ?_)
  obtain ⟨rfl, w9, hW9, e9, o9⟩ := hq9
  refine W.eq (g2 := F0 m 24 ls []) rfl ?_
  exact W.vret hx hb hret (fun t ht _ => ⟨_, rfl, rfl, w9, by rw [ht]; exact hW9, e9, o9⟩) (t_lL (free := (fun q => q = o + 2 + kx3 r ∨ q = kx_h o d + 1 ∨ q = kx_h o d + 2)) (t_lL (free := (fun q => q = o + 2 + kx3 r ∨ q = kx_h o d + 1 ∨ q = kx_h o d + 2)) (t_lL (free := (fun q => q = o + 2 + kx3 r ∨ q = kx_h o d + 1 ∨ q = kx_h o d + 2)) (t_lL (free := (fun q => q = o + 2 + kx3 r ∨ q = kx_h o d + 1 ∨ q = kx_h o d + 2)) (t_lL (free := (fun q => q = o + 2 + kx3 r ∨ q = kx_h o d + 1 ∨ q = kx_h o d + 2)) (fun q h => by cases h) (fun q z => (hL1 q z).elim)) (fun q z => (hL2 q z).elim)) (fun q z => (hL3 q z).elim)) (fun q z => (hL4 q z).elim)) hL5) d_Ke_multiply_24
theorem d_Ke_invert_0 : decode b_Ke_invert 0 = .ok (.aload_n 0, 1) := by decide +kernel
theorem d_Ke_invert_1 : decode b_Ke_invert 1 = .ok (.iload_n 3, 1) := by decide +kernel
theorem d_Ke_invert_2 : decode b_Ke_invert 2 = .ok (.invokevirtual 61, 3) := by decide +kernel
theorem d_Ke_invert_5 : decode b_Ke_invert 5 = .ok (.aload_n 0, 1) := by decide +kernel
theorem d_Ke_invert_6 : decode b_Ke_invert 6 = .ok (.iload_n 1, 1) := by decide +kernel
theorem d_Ke_invert_7 : decode b_Ke_invert 7 = .ok (.invokevirtual 55, 3) := by decide +kernel
theorem d_Ke_invert_10 : decode b_Ke_invert 10 = .ok (.aload_n 0, 1) := by decide +kernel
theorem d_Ke_invert_11 : decode b_Ke_invert 11 = .ok (.iload_n 2, 1) := by decide +kernel
theorem d_Ke_invert_12 : decode b_Ke_invert 12 = .ok (.invokevirtual 55, 3) := by decide +kernel
theorem d_Ke_invert_15 : decode b_Ke_invert 15 = .ok (.invokevirtual 75, 3) := by decide +kernel
theorem d_Ke_invert_18 : decode b_Ke_invert 18 = .ok (.ireturn, 1) := by decide +kernel
set_option maxHeartbeats 4000000 in
set_option maxRecDepth 100000 in
theorem c_Ke_invert (l : Launch) (E : kr_E) (A : Nat → Nat) (o : Nat) (bs : Nat → Bool) (v : Nat → Nat) (H : Heap) (hE : kr_ok E) (hA : kr_A E A) (hO : kr_O E A o bs) (hW : kr_W E v H) (r a : Int32) (d : Bool) : Met l y_Ke_invert w_Ke_invert ({ frames := 5, cells := 0, slots := 0, locals := 121 }) (kq_P [.ref o, .int r, .int a, .int (kq_z d)] H (kr_K E A o)) (kq_Q (fun o1 H1 => o1 = some (.int (kq_z (decide (¬ v (o + 2 + kx3 a) % kx_m d = 0)))) ∧ ∃ w : Nat → Nat, kr_W E w H1 ∧ w (o + 2 + kx3 r) = (if v (o + 2 + kx3 a) % kx_m d = 0 then v (o + 2 + kx3 r) else kf_inv (kx_m d) (v (o + 2 + kx3 a) % kx_m d)) ∧ ∀ q, q ≠ o + 2 + kx3 r → q ≠ kx_h o d + 1 → q ≠ kx_h o d + 2 → q ≠ kx_h o d + 3 → q ≠ kx_h o d + 4 → q ≠ kx_h o d + 5 → w q = v q)) 0 0 (fun q => q = o + 2 + kx3 r ∨ q = kx_h o d + 1 ∨ q = kx_h o d + 2 ∨ q = kx_h o d + 3 ∨ q = kx_h o d + 4 ∨ q = kx_h o d + 5) := by
  refine Met.ofW (cc := b_Ke_invert) (maxL := 4) (ret := (some .boolean)) (by decide) rfl ?_
  intro p e s m args below meth c s₁ B0 hml hv
  obtain ⟨rfl, hH, hKK⟩ := hv
  have hx := B0.exec
  have hb := B0.bytes
  have hret := B0.returns
  have hts := atoms_spec (ws := w_Ke_invert) B0.pre
  have hown : s.vm.findClass R_Ke = some m.cls := findClass_of_methodNamed B0.named
  have hlocks := B0.notSynchronized
  rw [hH]
  have hl := lv_entry ([.ref o, .int r, .int a, .int (kq_z d)]) (n := 4) (Nat.le_of_ble_eq_true rfl)
  rw [lg_entry_eq]
  generalize (lg_sl ([.ref o, .int r, .int a, .int (kq_z d)]) ++ List.replicate (4 - (lg_sl ([.ref o, .int r, .int a, .int (kq_z d)])).length) Slot.unset).toArray = ls at hl ⊢
  have hl : lv_has ls 4 [(0, .ref o), (1, .int r), (2, .int a), (3, .int (kq_z d))] := hl
  have hB := hKK.1.1
  have hT := kr_T hE hB
  have hK := hB.1
  have hOo := kr_obj hW hO.1 hO.2.1
  have hro := hO.2.2.2.2.2.2.1 (kx3 r) (kx3_lt r)
  have hao := hO.2.2.2.2.2.2.1 (kx3 a) (kx3_lt a)
  have hP := hO.pr d
  have hOp := kr_obj hW hP.1 hP.2.1
  have h5 : o + 2 + kx3 r ≠ kx_h o d + 5 := by
    have := kx3_lt r
    unfold kx_h
    split <;> omega
  refine lv_aload_n hx hb d_Ke_invert_0 rfl (lv_at hl 0 rfl) ?_
  refine lv_iload_n hx hb d_Ke_invert_1 rfl (lv_at hl 3 rfl) ?_
  refine kq_call (va_runV (As := [.int (kq_z d)]) (rest := []) ⟨hx, hb, hml, hown, hts⟩ (c_Ke_prime l E A o bs v H hE hA hO hW d) (cwV 1 hts (kt_inV kt_w172 kt_w169 kt_w171 kt_s1 kt_w1) rfl rfl rfl (by decide +kernel) ⟨Nat.le_of_ble_eq_true rfl, Nat.le_of_ble_eq_true rfl⟩) (kq_p2V (kr_K_s2 E A o) (hKK) (kq_recv hB.1 hOo rfl)) rfl rfl hl.1 rfl (lv_room (Nat.le_of_ble_eq_true rfl)) d_Ke_invert_2 ⟨Nat.zero_le _, Nat.zero_le _⟩) (fun v9 H9 L1 hq9 hL1 => ?_)
  obtain ⟨rfl, e9⟩ := hq9
  rw [e9]
  clear e9
  refine W.eq (g2 := F0 m 5 ls [.ref (kx_h o d)]) rfl ?_
  refine lv_aload_n hx hb d_Ke_invert_5 rfl (lv_at hl 0 rfl) ?_
  refine lv_iload_n hx hb d_Ke_invert_6 rfl (lv_at hl 1 rfl) ?_
  refine kq_call (va_runV (As := [.int r]) (rest := [.ref (kx_h o d)]) ⟨hx, hb, hml, hown, hts⟩ (c_Ke_register l E A o bs v H hE hA hO hW r) (cwV 1 hts (kt_inV kt_w159 kt_w156 kt_w158 kt_s0 kt_w1) rfl rfl rfl (by decide +kernel) ⟨Nat.le_of_ble_eq_true rfl, Nat.le_of_ble_eq_true rfl⟩) (kq_p2V (kr_K_s2 E A o) (hKK) (kq_recv hKK.1.1.1 hOo rfl)) rfl rfl hl.1 rfl (lv_room (Nat.le_of_ble_eq_true rfl)) d_Ke_invert_7 ⟨Nat.zero_le _, Nat.zero_le _⟩) (fun v9 H9 L2 hq9 hL2 => ?_)
  obtain ⟨rfl, e9⟩ := hq9
  rw [e9]
  clear e9
  refine W.eq (g2 := F0 m 10 ls [.ref (o + 2 + kx3 r), .ref (kx_h o d)]) rfl ?_
  refine lv_aload_n hx hb d_Ke_invert_10 rfl (lv_at hl 0 rfl) ?_
  refine lv_iload_n hx hb d_Ke_invert_11 rfl (lv_at hl 2 rfl) ?_
  refine kq_call (va_runV (As := [.int a]) (rest := [.ref (o + 2 + kx3 r), .ref (kx_h o d)]) ⟨hx, hb, hml, hown, hts⟩ (c_Ke_register l E A o bs v H hE hA hO hW a) (cwV 1 hts (kt_inV kt_w159 kt_w156 kt_w158 kt_s0 kt_w1) rfl rfl rfl (by decide +kernel) ⟨Nat.le_of_ble_eq_true rfl, Nat.le_of_ble_eq_true rfl⟩) (kq_p2V (kr_K_s2 E A o) (hKK) (kq_recv hKK.1.1.1 hOo rfl)) rfl rfl hl.1 rfl (lv_room (Nat.le_of_ble_eq_true rfl)) d_Ke_invert_12 ⟨Nat.zero_le _, Nat.zero_le _⟩) (fun v9 H9 L3 hq9 hL3 => ?_)
  obtain ⟨rfl, e9⟩ := hq9
  rw [e9]
  clear e9
  refine W.eq (g2 := F0 m 15 ls [.ref (o + 2 + kx3 a), .ref (o + 2 + kx3 r), .ref (kx_h o d)]) rfl ?_
  refine kq_call (va_runV (As := [.ref (o + 2 + kx3 r), .ref (o + 2 + kx3 a)]) (rest := []) ⟨hx, hb, hml, hown, hts⟩ (c_Pr_inverse l E A (kx_h o d) (kx_a A d) (kx_g A d) (kx_w d) (kx_m d) (kx_G d) v H hE hA hP hW (o + 2 + kx3 r) (o + 2 + kx3 a) hro (Or.inl hao) h5) (cwV 2 hts (kt_inV kt_w233 kt_w230 kt_w231 kt_w232 kt_w3) rfl rfl rfl (by decide +kernel) ⟨Nat.le_of_ble_eq_true rfl, Nat.le_of_ble_eq_true rfl⟩) (kq_p2V (kr_C_s2 E A) (hKK.1) (kq_recv hB.1 hOp rfl)) rfl rfl hl.1 rfl (lv_room (Nat.le_of_ble_eq_true rfl)) d_Ke_invert_15 ⟨Nat.zero_le _, Nat.zero_le _⟩) (fun v9 H9 L4 hq9 hL4 => ?_)
  obtain ⟨rfl, w9, hW9, e9, o9⟩ := hq9
  refine W.eq (g2 := F0 m 18 ls [.int (kq_z (decide (¬ v (o + 2 + kx3 a) % kx_m d = 0)))]) rfl ?_
  exact W.zret hx hb hret (by unfold kq_z; split <;> rfl) (fun t ht _ => ⟨_, rfl, rfl, w9, by rw [ht]; exact hW9, e9, o9⟩) (t_lL (free := (fun q => q = o + 2 + kx3 r ∨ q = kx_h o d + 1 ∨ q = kx_h o d + 2 ∨ q = kx_h o d + 3 ∨ q = kx_h o d + 4 ∨ q = kx_h o d + 5)) (t_lL (free := (fun q => q = o + 2 + kx3 r ∨ q = kx_h o d + 1 ∨ q = kx_h o d + 2 ∨ q = kx_h o d + 3 ∨ q = kx_h o d + 4 ∨ q = kx_h o d + 5)) (t_lL (free := (fun q => q = o + 2 + kx3 r ∨ q = kx_h o d + 1 ∨ q = kx_h o d + 2 ∨ q = kx_h o d + 3 ∨ q = kx_h o d + 4 ∨ q = kx_h o d + 5)) (t_lL (free := (fun q => q = o + 2 + kx3 r ∨ q = kx_h o d + 1 ∨ q = kx_h o d + 2 ∨ q = kx_h o d + 3 ∨ q = kx_h o d + 4 ∨ q = kx_h o d + 5)) (fun q h => by cases h) (fun q z => (hL1 q z).elim)) (fun q z => (hL2 q z).elim)) (fun q z => (hL3 q z).elim)) hL4) d_Ke_invert_18
theorem d_Ke_root_0 : decode b_Ke_root 0 = .ok (.aload_n 0, 1) := by decide +kernel
theorem d_Ke_root_1 : decode b_Ke_root 1 = .ok (.getfield 51, 3) := by decide +kernel
theorem d_Ke_root_4 : decode b_Ke_root 4 = .ok (.aload_n 0, 1) := by decide +kernel
theorem d_Ke_root_5 : decode b_Ke_root 5 = .ok (.iload_n 1, 1) := by decide +kernel
theorem d_Ke_root_6 : decode b_Ke_root 6 = .ok (.invokevirtual 55, 3) := by decide +kernel
theorem d_Ke_root_9 : decode b_Ke_root 9 = .ok (.aload_n 0, 1) := by decide +kernel
theorem d_Ke_root_10 : decode b_Ke_root 10 = .ok (.iload_n 2, 1) := by decide +kernel
theorem d_Ke_root_11 : decode b_Ke_root 11 = .ok (.invokevirtual 55, 3) := by decide +kernel
theorem d_Ke_root_14 : decode b_Ke_root 14 = .ok (.invokevirtual 79, 3) := by decide +kernel
theorem d_Ke_root_17 : decode b_Ke_root 17 = .ok (.ireturn, 1) := by decide +kernel
set_option maxHeartbeats 4000000 in
set_option maxRecDepth 100000 in
theorem c_Ke_root (l : Launch) (E : kr_E) (A : Nat → Nat) (o : Nat) (bs : Nat → Bool) (v : Nat → Nat) (H : Heap) (hE : kr_ok E) (hA : kr_A E A) (hO : kr_O E A o bs) (hW : kr_W E v H) (r a : Int32) : Met l y_Ke_root w_Ke_root ({ frames := 5, cells := 0, slots := 0, locals := 121 }) (kq_P [.ref o, .int r, .int a] H (kr_K E A o)) (kq_Q (fun o1 H1 => o1 = some (.int (kq_z (decide (kc_root (v (o + 2 + kx3 a)) * kc_root (v (o + 2 + kx3 a)) % kP = v (o + 2 + kx3 a) % kP)))) ∧ ∃ w : Nat → Nat, kr_W E w H1 ∧ w (o + 2 + kx3 r) = (if kc_root (v (o + 2 + kx3 a)) * kc_root (v (o + 2 + kx3 a)) % kP = v (o + 2 + kx3 a) % kP then kc_even (kc_root (v (o + 2 + kx3 a))) else v (o + 2 + kx3 r)) ∧ ∀ q, q ≠ o + 2 + kx3 r → ¬ kr_fr (o + 19) (o + 33) q → w q = v q)) 0 0 (fun q => q = o + 2 + kx3 r ∨ kr_fr (o + 19) (o + 33) q) := by
  refine Met.ofW (cc := b_Ke_root) (maxL := 3) (ret := (some .boolean)) (by decide) rfl ?_
  intro p e s m args below meth c s₁ B0 hml hv
  obtain ⟨rfl, hH, hKK⟩ := hv
  have hx := B0.exec
  have hb := B0.bytes
  have hret := B0.returns
  have hts := atoms_spec (ws := w_Ke_root) B0.pre
  have hown : s.vm.findClass R_Ke = some m.cls := findClass_of_methodNamed B0.named
  have hlocks := B0.notSynchronized
  rw [hH]
  have hl := lv_entry ([.ref o, .int r, .int a]) (n := 3) (Nat.le_of_ble_eq_true rfl)
  rw [lg_entry_eq]
  generalize (lg_sl ([.ref o, .int r, .int a]) ++ List.replicate (3 - (lg_sl ([.ref o, .int r, .int a])).length) Slot.unset).toArray = ls at hl ⊢
  have hl : lv_has ls 3 [(0, .ref o), (1, .int r), (2, .int a)] := hl
  have hB := hKK.1.1
  have hT := kr_T hE hB
  have hK := hB.1
  have hOo := kr_obj hW hO.1 hO.2.1
  have hro := hO.2.2.2.2.2.2.1 (kx3 r) (kx3_lt r)
  have hao := hO.2.2.2.2.2.2.1 (kx3 a) (kx3_lt a)
  have hV := hO.2.2.2.2.2.1
  have hOc := kr_obj hW hV.1 hV.2.1
  have l1 := kx3_lt r
  have l2 := kx3_lt a
  refine lv_aload_n hx hb d_Ke_root_0 rfl (lv_at hl 0 rfl) ?_
  refine kq_get hx hb hts kt_F_Ke hown hK hOo rfl 4 (by decide) kt_w140 rfl d_Ke_root_1 ?_
  refine lv_aload_n hx hb d_Ke_root_4 rfl (lv_at hl 0 rfl) ?_
  refine lv_iload_n hx hb d_Ke_root_5 rfl (lv_at hl 1 rfl) ?_
  refine kq_call (va_runV (As := [.int r]) (rest := [.ref (o + 33)]) ⟨hx, hb, hml, hown, hts⟩ (c_Ke_register l E A o bs v H hE hA hO hW r) (cwV 1 hts (kt_inV kt_w159 kt_w156 kt_w158 kt_s0 kt_w1) rfl rfl rfl (by decide +kernel) ⟨Nat.le_of_ble_eq_true rfl, Nat.le_of_ble_eq_true rfl⟩) (kq_p2V (kr_K_s2 E A o) (hKK) (kq_recv hKK.1.1.1 hOo rfl)) rfl rfl hl.1 rfl (lv_room (Nat.le_of_ble_eq_true rfl)) d_Ke_root_6 ⟨Nat.zero_le _, Nat.zero_le _⟩) (fun v9 H9 L1 hq9 hL1 => ?_)
  obtain ⟨rfl, e9⟩ := hq9
  rw [e9]
  clear e9
  refine W.eq (g2 := F0 m 9 ls [.ref (o + 2 + kx3 r), .ref (o + 33)]) rfl ?_
  refine lv_aload_n hx hb d_Ke_root_9 rfl (lv_at hl 0 rfl) ?_
  refine lv_iload_n hx hb d_Ke_root_10 rfl (lv_at hl 2 rfl) ?_
  refine kq_call (va_runV (As := [.int a]) (rest := [.ref (o + 2 + kx3 r), .ref (o + 33)]) ⟨hx, hb, hml, hown, hts⟩ (c_Ke_register l E A o bs v H hE hA hO hW a) (cwV 1 hts (kt_inV kt_w159 kt_w156 kt_w158 kt_s0 kt_w1) rfl rfl rfl (by decide +kernel) ⟨Nat.le_of_ble_eq_true rfl, Nat.le_of_ble_eq_true rfl⟩) (kq_p2V (kr_K_s2 E A o) (hKK) (kq_recv hKK.1.1.1 hOo rfl)) rfl rfl hl.1 rfl (lv_room (Nat.le_of_ble_eq_true rfl)) d_Ke_root_11 ⟨Nat.zero_le _, Nat.zero_le _⟩) (fun v9 H9 L2 hq9 hL2 => ?_)
  obtain ⟨rfl, e9⟩ := hq9
  rw [e9]
  clear e9
  refine W.eq (g2 := F0 m 14 ls [.ref (o + 2 + kx3 a), .ref (o + 2 + kx3 r), .ref (o + 33)]) rfl ?_
  refine kq_call (va_runV (As := [.ref (o + 2 + kx3 r), .ref (o + 2 + kx3 a)]) (rest := []) ⟨hx, hb, hml, hown, hts⟩ (c_Cu_evenRoot l E A (o + 19) (A 0) (A 6) 2 kG_P (o + 33) v H hE hA hO.2.2.2.1 hV hW (o + 2 + kx3 r) (o + 2 + kx3 a) hro hao (Or.inl (by omega)) (Or.inl (by omega))) (cwV 2 hts (kt_inV kt_w254 kt_w251 kt_w252 kt_w253 kt_w4) rfl rfl rfl (by decide +kernel) ⟨Nat.le_of_ble_eq_true rfl, Nat.le_of_ble_eq_true rfl⟩) (kq_p2V (kr_C_s2 E A) (hKK.1) (kq_recv hB.1 hOc rfl)) rfl rfl hl.1 rfl (lv_room (Nat.le_of_ble_eq_true rfl)) d_Ke_root_14 ⟨Nat.zero_le _, Nat.zero_le _⟩) (fun v9 H9 L3 hq9 hL3 => ?_)
  obtain ⟨rfl, w9, hW9, e9, o9⟩ := hq9
  refine W.eq (g2 := F0 m 17 ls [.int (kq_z (decide (kc_root (v (o + 2 + kx3 a)) * kc_root (v (o + 2 + kx3 a)) % kP = v (o + 2 + kx3 a) % kP)))]) rfl ?_
  exact W.zret hx hb hret (by unfold kq_z; split <;> rfl) (fun t ht _ => ⟨_, rfl, rfl, w9, by rw [ht]; exact hW9, e9, o9⟩) (t_lL (free := (fun q => q = o + 2 + kx3 r ∨ kr_fr (o + 19) (o + 33) q)) (t_lL (free := (fun q => q = o + 2 + kx3 r ∨ kr_fr (o + 19) (o + 33) q)) (t_lL (free := (fun q => q = o + 2 + kx3 r ∨ kr_fr (o + 19) (o + 33) q)) (fun q h => by cases h) (fun q z => (hL1 q z).elim)) (fun q z => (hL2 q z).elim)) hL3) d_Ke_root_17
