/-! The two worlds beside each other, at the heap as it stands (own rows). -/
/-- the class's rows, its constants, their lengths -/
def kl_LC (o q : Nat) : Prop := (o + 2 ≤ q ∧ q ≤ o + 5) ∨ (q = o + 8 ∨ q = o + 9 ∨ q = o + 11 ∨ q = o + 12 ∨ q = o + 14 ∨ q = o + 15 ∨ q = o + 17 ∨ q = o + 18) ∨ (o + 20 ≤ q ∧ q ≤ o + 24) ∨ (o + 27 ≤ q ∧ q ≤ o + 31) ∨ (o + 34 ≤ q ∧ q ≤ o + 44)
def kl_SC (o : Nat) (A : Nat → Nat) (q : Nat) : Prop := (∃ k, k < 9 ∧ q = A k) ∨ q = o + 25 ∨ q = o + 32
def kl_nC (o q : Nat) : Nat := if q = o + 20 ∨ q = o + 27 then 16 else 8
def kl_cv : Nat → Nat := fun k => match k with
  | 0 => kP
  | 1 => 1
  | 2 => 7
  | 3 => (kP + 1) / 4
  | 4 => kX_G
  | 5 => kY_G
  | 6 => kG_P
  | 7 => kN
  | _ => kG_N
theorem kl_cv_lt : ∀ k, k < 9 → kl_cv k < kw_M 8 := by decide +kernel
def kl_rL (H : Heap) (q V : Nat) : Prop := ∃ cell : Cell, H[q]? = some cell ∧ ∀ j, j < 8 → cell.slots[j]? = some (.long (lN (kw_d V j)))
def kl_rI (H : Heap) (q V : Nat) : Prop := ∃ cell : Cell, H[q]? = some cell ∧ ∀ j, j < 8 → cell.slots[j]? = some (.int (nI (kw_d V j)))
theorem kl_rL_one {H : Heap} {q V V1 : Nat} (h : V < kw_M 8) (h1 : V1 < kw_M 8) (r : kl_rL H q V) (r1 : kl_rL H q V1) : V = V1 := by
  obtain ⟨c, c1, c2⟩ := r
  obtain ⟨d, d1, d2⟩ := r1
  cases c1.symm.trans d1
  refine kw_d_eq h h1 (fun j hj => ?_)
  have e := (c2 j hj).symm.trans (d2 j hj)
  exact kq_lN_inj (kw_d_lt _ _) (kw_d_lt _ _) (Value.long.inj (Option.some.inj e))
theorem kl_rI_one {H : Heap} {q V V1 : Nat} (h : V < kw_M 8) (h1 : V1 < kw_M 8) (r : kl_rI H q V) (r1 : kl_rI H q V1) : V = V1 := by
  obtain ⟨c, c1, c2⟩ := r
  obtain ⟨d, d1, d2⟩ := r1
  cases c1.symm.trans d1
  refine kw_d_eq h h1 (fun j hj => ?_)
  have e := (c2 j hj).symm.trans (d2 j hj)
  exact kq_nI_inj (kw_d_lt _ _) (kw_d_lt _ _) (Value.int.inj (Option.some.inj e))
noncomputable def kl_vL (H : Heap) (q : Nat) : Nat := Classical.epsilon (fun V => V < kw_M 8 ∧ kl_rL H q V)
noncomputable def kl_vI (H : Heap) (q : Nat) : Nat := Classical.epsilon (fun V => V < kw_M 8 ∧ kl_rI H q V)
theorem kl_vL_eq {H : Heap} {q V : Nat} (h : V < kw_M 8) (r : kl_rL H q V) : kl_vL H q = V := by
  have e := Classical.epsilon_spec (p := fun V => V < kw_M 8 ∧ kl_rL H q V) ⟨V, h, r⟩
  exact kl_rL_one e.1 h e.2 r
theorem kl_vI_eq {H : Heap} {q V : Nat} (h : V < kw_M 8) (r : kl_rI H q V) : kl_vI H q = V := by
  have e := Classical.epsilon_spec (p := fun V => V < kw_M 8 ∧ kl_rI H q V) ⟨V, h, r⟩
  exact kl_rI_one e.1 h e.2 r
theorem kl_rL_of {U : State} {H : Heap} {a V : Nat} (h : kq_sL U H a 8 V) : kl_rL H a V := by
  obtain ⟨cell, h1, h2, h3, h4, h5⟩ := h
  exact ⟨cell, h1, h5⟩
theorem kl_rI_of {U : State} {H : Heap} {a V : Nat} (h : kq_sI U H a 8 V) : kl_rI H a V := by
  obtain ⟨cell, h1, h2, h3, h4, h5⟩ := h
  exact ⟨cell, h1, h5⟩
noncomputable def kl_vC (o : Nat) (H0 : Heap) (q : Nat) : Nat := if q = o + 25 then kP - 2 else if q = o + 32 then kN - 2 else kl_vL H0 q
noncomputable def kl_C (o : Nat) (A : Nat → Nat) (cL : ClassId) (D : va_G) (tys : List (ClassId × FieldType)) (H0 H : Heap) : kr_E := (kl_LC o, kl_SC o A, kl_nC o, kl_vC o H0, cL, D, tys, H)
/-- what is given of the class's constants -/
def kl_gC (o : Nat) (A : Nat → Nat) (H0 : Heap) (s : State) : Prop := ∀ k, k < 9 → A k < o ∧ kq_sL s H0 (A k) 8 (kl_cv k)
theorem kl_vC_A {o : Nat} {A : Nat → Nat} {H0 : Heap} {s : State} (g : kl_gC o A H0 s) {k : Nat} (hk : k < 9) : kl_vC o H0 (A k) = kl_cv k := by
  obtain ⟨h1, h2⟩ := g k hk
  unfold kl_vC
  rw [if_neg (by omega), if_neg (by omega)]
  exact kl_vL_eq (kl_cv_lt k hk) (kl_rL_of h2)
/-- the class's cells: rows v, flags bs -/
def kl_c (o : Nat) (A : Nat → Nat) (cL cR cS : ClassId) (D : va_G) (H0 H : Heap) (v : Nat → Nat) (bs : Nat → Bool) : Prop :=
  va_P D kr_cl [(o, .inr (3, [.ref (o + 1), .ref (o + 6), .ref (o + 19), .ref (o + 26), .ref (o + 33)]))] H ∧ H[o + 1]? = some (kn_R cR 4 4 (fun j => o + 2 + j)) ∧ H[o + 6]? = some (kn_R cS 4 4 (fun j => o + 7 + 3 * j)) ∧
  va_P D kr_cl [(o + 19, .inr (1, [.ref (A 0), .ref (A 6), .int (nI 2), .ref (o + 19 + 6), .ref (o + 19 + 1), .ref (o + 19 + 2), .ref (o + 19 + 3), .ref (o + 19 + 4), .ref (o + 19 + 5)]))] H ∧
  va_P D kr_cl [(o + 26, .inr (1, [.ref (A 7), .ref (A 8), .int (nI 5), .ref (o + 26 + 6), .ref (o + 26 + 1), .ref (o + 26 + 2), .ref (o + 26 + 3), .ref (o + 26 + 4), .ref (o + 26 + 5)]))] H ∧
  va_P D kr_cl [(o + 33, .inr (0, [.ref (o + 19), .ref (o + 33 + 1), .ref (o + 33 + 2), .ref (o + 33 + 3), .ref (o + 33 + 4), .ref (o + 33 + 5), .ref (o + 33 + 6), .ref (o + 33 + 7), .ref (o + 33 + 8), .ref (o + 33 + 9), .ref (o + 33 + 10), .ref (o + 33 + 11)]))] H ∧
  H[o + 25]? = some (kq_L cL 8 (kP - 2)) ∧ H[o + 32]? = some (kq_L cL 8 (kN - 2)) ∧
  (∀ j, j < 4 → va_P D kr_cl [(o + 7 + 3 * j, .inr (2, [.ref (o + 7 + 3 * j + 1), .ref (o + 7 + 3 * j + 2), .int (kq_z (bs j))]))] H) ∧
  (∀ a, kl_LC o a → H[a]? = some (kq_L cL (kl_nC o a) (v a)) ∧ v a < kw_M (kl_nC o a)) ∧ ∀ a, kl_SC o A a → v a = kl_vC o H0 a
theorem kl_c.at {o : Nat} {A : Nat → Nat} {cL cR cS : ClassId} {D : va_G} {H0 H H1 : Heap} {v w : Nat → Nat} {bs bs1 : Nat → Bool} (h : kl_c o A cL cR cS D H0 H v bs)
    (e : ∀ q, q = o ∨ q = o + 1 ∨ q = o + 6 ∨ q = o + 19 ∨ q = o + 26 ∨ q = o + 33 ∨ q = o + 25 ∨ q = o + 32 → H1[q]? = H[q]?)
    (hs : ∀ j, j < 4 → va_P D kr_cl [(o + 7 + 3 * j, .inr (2, [.ref (o + 7 + 3 * j + 1), .ref (o + 7 + 3 * j + 2), .int (kq_z (bs1 j))]))] H1)
    (hr : ∀ a, kl_LC o a → H1[a]? = some (kq_L cL (kl_nC o a) (w a)) ∧ w a < kw_M (kl_nC o a)) (hv : ∀ a, kl_SC o A a → w a = kl_vC o H0 a) : kl_c o A cL cR cS D H0 H1 w bs1 := by
  obtain ⟨h1, h2, h3, h4, h5, h6, h7, h8, h9, h10, h11⟩ := h
  exact ⟨kn_keep h1 (e _ (by omega)), (e _ (by omega)).trans h2, (e _ (by omega)).trans h3, kn_keep h4 (e _ (by omega)), kn_keep h5 (e _ (by omega)), kn_keep h6 (e _ (by omega)), (e _ (by omega)).trans h7, (e _ (by omega)).trans h8, hs, hr, hv⟩
theorem kl_c.same {o : Nat} {A : Nat → Nat} {cL cR cS : ClassId} {D : va_G} {H0 H H1 : Heap} {v : Nat → Nat} {bs : Nat → Bool} (h : kl_c o A cL cR cS D H0 H v bs) (e : ∀ q, o ≤ q → q < o + 45 → H1[q]? = H[q]?) : kl_c o A cL cR cS D H0 H1 v bs := by
  refine h.at (fun q hq => e q (by omega) (by omega)) (fun j hj => kn_keep (h.2.2.2.2.2.2.2.2.1 j hj) (e _ (by omega) (by omega))) (fun a ha => ?_) h.2.2.2.2.2.2.2.2.2.2
  rw [e a (by unfold kl_LC at ha; omega) (by unfold kl_LC at ha; omega)]
  exact h.2.2.2.2.2.2.2.2.2.1 a ha
theorem kl_c.back {o : Nat} {A : Nat → Nat} {cL cR cS : ClassId} {D : va_G} {tys : List (ClassId × FieldType)} {H0 H H1 : Heap} {v w : Nat → Nat} {bs : Nat → Bool} (h : kl_c o A cL cR cS D H0 H v bs) (hW : kr_W (kl_C o A cL D tys H0 H) w H1) : kl_c o A cL cR cS D H0 H1 w bs := by
  have e : ∀ q, ¬ kl_LC o q → H1[q]? = H[q]? := hW.2.2.1
  exact h.at (fun q hq => e q (by unfold kl_LC; omega)) (fun j hj => kn_keep (h.2.2.2.2.2.2.2.2.1 j hj) (e _ (by unfold kl_LC; omega))) (fun a ha => ⟨hW.2.1 a ha, hW.2.2.2.1 a ha⟩) hW.2.2.2.2
theorem kl_c.backb {o k : Nat} {A : Nat → Nat} {cL cR cS : ClassId} {D : va_G} {tys : List (ClassId × FieldType)} {H0 H H1 : Heap} {v w : Nat → Nat} {bs : Nat → Bool} {b : Bool} (h : kl_c o A cL cR cS D H0 H v bs) (hk : k < 4) (hW : kr_Wb (kl_C o A cL D tys H0 H) (o + 7 + 3 * k) b w H1) : kl_c o A cL cR cS D H0 H1 w (kx_ub bs k b) := by
  obtain ⟨H2, hW, hz, e2, hP⟩ := hW
  have e : ∀ q, ¬ kl_LC o q → q ≠ o + 7 + 3 * k → H1[q]? = H[q]? := fun q q1 q2 => (e2 q q2).trans (hW.2.2.1 q q1)
  refine h.at (fun q hq => e q (by unfold kl_LC; omega) (by omega)) (fun j hj => ?_) (fun a ha => ⟨?_, hW.2.2.2.1 a ha⟩) hW.2.2.2.2
  · by_cases hjk : j = k
    · subst hjk
      unfold kx_ub
      rw [if_pos rfl]
      exact hP
    · unfold kx_ub
      rw [if_neg hjk]
      exact kn_keep (h.2.2.2.2.2.2.2.2.1 j hj) (e _ (by unfold kl_LC; omega) (by omega))
  · rw [e2 a (by unfold kl_LC at ha; omega)]
    exact hW.2.1 a ha
/-- off the class's cells nothing has changed -/
theorem kl_offC {o : Nat} {A : Nat → Nat} {cL : ClassId} {D : va_G} {tys : List (ClassId × FieldType)} {H0 H H1 : Heap} {w : Nat → Nat} (hW : kr_W (kl_C o A cL D tys H0 H) w H1) : H1.size = H.size ∧ ∀ q, q < o ∨ o + 45 ≤ q → H1[q]? = H[q]? := ⟨hW.1, fun q hq => hW.2.2.1 q (by show ¬ kl_LC o q; unfold kl_LC; omega)⟩
theorem kl_offb {o k : Nat} {A : Nat → Nat} {cL : ClassId} {D : va_G} {tys : List (ClassId × FieldType)} {H0 H H1 : Heap} {w : Nat → Nat} {b : Bool} (hk : k < 4) (hW : kr_Wb (kl_C o A cL D tys H0 H) (o + 7 + 3 * k) b w H1) : H1.size = H.size ∧ ∀ q, q < o ∨ o + 45 ≤ q → H1[q]? = H[q]? := by
  obtain ⟨H2, hW, hz, e2, hP⟩ := hW
  exact ⟨hz.trans hW.1, fun q hq => (e2 q (by omega)).trans (hW.2.2.1 q (by show ¬ kl_LC o q; unfold kl_LC; omega))⟩
theorem kl_okC {o : Nat} {A : Nat → Nat} {cL : ClassId} {D : va_G} {tys : List (ClassId × FieldType)} {H0 H : Heap} {s : State} {tL : Nat} (g : kl_gC o A H0 s) (ht : tys[tL]? = some (cL, .long)) : kr_ok (kl_C o A cL D tys H0 H) := by
  refine ⟨fun a ha => ?_, fun a ha => ?_, tL, ht⟩
  · show ¬ kl_LC o a
    unfold kl_LC
    rcases ha with ⟨k, hk, rfl⟩ | rfl | rfl
    · have := (g k hk).1
      omega
    · omega
    · omega
  · show kl_vC o H0 a < kw_M 8
    rcases ha with ⟨k, hk, rfl⟩ | rfl | rfl
    · rw [kl_vC_A g hk]
      exact kl_cv_lt k hk
    · unfold kl_vC
      rw [if_pos rfl]
      decide +kernel
    · unfold kl_vC
      rw [if_neg (by omega), if_pos rfl]
      decide +kernel
theorem kl_SA {o k : Nat} {A : Nat → Nat} {cL : ClassId} {D : va_G} {tys : List (ClassId × FieldType)} {H0 H : Heap} {s : State} (g : kl_gC o A H0 s) (hk : k < 9) : kr_S (kl_C o A cL D tys H0 H) (A k) ∧ kr_v (kl_C o A cL D tys H0 H) (A k) = kl_cv k := ⟨Or.inl ⟨k, hk, rfl⟩, kl_vC_A g hk⟩
theorem kl_AC {o : Nat} {A : Nat → Nat} {cL : ClassId} {D : va_G} {tys : List (ClassId × FieldType)} {H0 H : Heap} {s : State} (g : kl_gC o A H0 s) : kr_A (kl_C o A cL D tys H0 H) A := ⟨kl_SA g (by decide), kl_SA g (by decide), kl_SA g (by decide), kl_SA g (by decide), kl_SA g (by decide), kl_SA g (by decide)⟩
theorem kl_outC {o q : Nat} {A : Nat → Nat} {cL : ClassId} {D : va_G} {tys : List (ClassId × FieldType)} {H0 H : Heap} (h : kl_LC o q) (h1 : q ≠ o + 20) (h2 : q ≠ o + 27) : kr_out (kl_C o A cL D tys H0 H) q := ⟨h, by show kl_nC o q = 8; unfold kl_nC; rw [if_neg (by omega)]⟩
theorem kl_wideC {o q : Nat} {A : Nat → Nat} {cL : ClassId} {D : va_G} {tys : List (ClassId × FieldType)} {H0 H : Heap} (h : q = o + 20 ∨ q = o + 27) : kr_L (kl_C o A cL D tys H0 H) q ∧ kr_n (kl_C o A cL D tys H0 H) q = 16 := ⟨by show kl_LC o q; unfold kl_LC; omega, by show kl_nC o q = 16; unfold kl_nC; rw [if_pos h]⟩
theorem kl_OC {o : Nat} {A : Nat → Nat} {cL cR cS : ClassId} {D : va_G} {tys : List (ClassId × FieldType)} {H0 H : Heap} {s : State} {v : Nat → Nat} {bs : Nat → Bool} (g : kl_gC o A H0 s) (h : kl_c o A cL cR cS D H0 H v bs) : kr_O (kl_C o A cL D tys H0 H) A o bs := by
  have nl : ∀ q, ¬ kl_LC o q → ¬ kr_L (kl_C o A cL D tys H0 H) q := fun q hq => hq
  refine ⟨h.1, nl _ (by unfold kl_LC; omega), ⟨nl _ (by unfold kl_LC; omega), nl _ (by unfold kl_LC; omega)⟩, ?_, ?_, ?_, fun j hj => kl_outC (by unfold kl_LC; omega) (by omega) (by omega), fun j hj => ?_⟩
  · exact ⟨h.2.2.2.1, nl _ (by unfold kl_LC; omega), kl_SA g (by decide), kl_SA g (by decide), kp_okP, kP_prime, ⟨by decide +kernel, by decide⟩, ⟨Or.inr (Or.inl rfl), by show kl_vC o H0 (o + 19 + 6) = _; unfold kl_vC; rw [if_pos (by omega)]⟩, kl_wideC (by omega), kl_outC (by unfold kl_LC; omega) (by omega) (by omega), kl_outC (by unfold kl_LC; omega) (by omega) (by omega), kl_outC (by unfold kl_LC; omega) (by omega) (by omega), kl_outC (by unfold kl_LC; omega) (by omega) (by omega)⟩
  · exact ⟨h.2.2.2.2.1, nl _ (by unfold kl_LC; omega), kl_SA g (by decide), kl_SA g (by decide), kp_okN, kN_prime, ⟨by decide +kernel, by decide⟩, ⟨Or.inr (Or.inr rfl), by show kl_vC o H0 (o + 26 + 6) = _; unfold kl_vC; rw [if_neg (by omega), if_pos (by omega)]⟩, kl_wideC (by omega), kl_outC (by unfold kl_LC; omega) (by omega) (by omega), kl_outC (by unfold kl_LC; omega) (by omega) (by omega), kl_outC (by unfold kl_LC; omega) (by omega) (by omega), kl_outC (by unfold kl_LC; omega) (by omega) (by omega)⟩
  · exact ⟨h.2.2.2.2.2.1, nl _ (by unfold kl_LC; omega), fun k k1 k2 => kl_outC (by unfold kl_LC; omega) (by omega) (by omega), by omega⟩
  · exact ⟨h.2.2.2.2.2.2.2.2.1 j hj, nl _ (by unfold kl_LC; omega), kl_outC (by unfold kl_LC; omega) (by omega) (by omega), kl_outC (by unfold kl_LC; omega) (by omega) (by omega)⟩
theorem kl_WC {o : Nat} {A : Nat → Nat} {cL cR cS : ClassId} {D : va_G} {tys : List (ClassId × FieldType)} {H0 H : Heap} {v : Nat → Nat} {bs : Nat → Bool} (h : kl_c o A cL cR cS D H0 H v bs) : kr_W (kl_C o A cL D tys H0 H) v H := ⟨rfl, fun a ha => (h.2.2.2.2.2.2.2.2.2.1 a ha).1, fun _ _ => rfl, fun a ha => (h.2.2.2.2.2.2.2.2.2.1 a ha).2, h.2.2.2.2.2.2.2.2.2.2⟩
/-- a static field that stands below o, in a heap that is the same there -/
theorem kl_Z {C n d : String} {v : Value} {o : Nat} {U : State} {H0 H : Heap} {L : Nat → Prop} (h : va_Z C n d v (fun q => o ≤ q) U H0) (e : ∀ q, q < o → H[q]? = H0[q]?) (hL : ∀ q, q < o → ¬ L q) : va_Z C n d v L U H := by
  obtain ⟨cf, kf, fi, f, a, cell, h1, h2, h3, h4, h5, h6, h7, h8⟩ := h
  have ha : a < o := Nat.lt_of_not_le h8
  exact ⟨cf, kf, fi, f, a, cell, h1, h2, h3, h4, (e a ha).trans h5, h6, h7, hL a ha⟩
def kl_zC (o : Nat) (A : Nat → Nat) (H0 : Heap) (s : State) : Prop := va_Z "KeyCurve" "FIELD" "[J" (.ref (A 0)) (fun q => o ≤ q) s H0 ∧ va_Z "KeyCurve" "ONE" "[J" (.ref (A 1)) (fun q => o ≤ q) s H0 ∧ va_Z "KeyCurve" "SEVEN" "[J" (.ref (A 2)) (fun q => o ≤ q) s H0 ∧ va_Z "KeyCurve" "ROOT_POWER" "[J" (.ref (A 3)) (fun q => o ≤ q) s H0 ∧ va_Z "KeyCurve" "BASE_X" "[J" (.ref (A 4)) (fun q => o ≤ q) s H0 ∧ va_Z "KeyCurve" "BASE_Y" "[J" (.ref (A 5)) (fun q => o ≤ q) s H0
theorem kl_KC {o : Nat} {A : Nat → Nat} {cL cR cS : ClassId} {D : va_G} {tys : List (ClassId × FieldType)} {H0 H : Heap} {s : State} {v : Nat → Nat} {bs : Nat → Bool} {tL tR tS : Nat} (hK : va_K D kr_cl tys s) (hN : kr_N s) (hZ : kl_zC o A H0 s) (g : kl_gC o A H0 s) (hL0 : tys[tL]? = some (cL, .long)) (hR0 : tys[tR]? = some (cR, .array .long)) (hS0 : tys[tS]? = some (cS, .object "KeyCurve$Spot")) (e : ∀ q, q < o → H[q]? = H0[q]?) (h : kl_c o A cL cR cS D H0 H v bs) : kr_K (kl_C o A cL D tys H0 H) A o s := by
  have nL : ∀ q, q < o → ¬ kl_LC o q := fun q hq => by unfold kl_LC; omega
  have hT := (hK.2 tL _ hL0).1
  refine ⟨⟨⟨hK, fun a ha => ?_⟩, hN, kl_Z hZ.1 e nL, kl_Z hZ.2.1 e nL, kl_Z hZ.2.2.1 e nL, kl_Z hZ.2.2.2.1 e nL, kl_Z hZ.2.2.2.2.1 e nL, kl_Z hZ.2.2.2.2.2 e nL⟩, kn_R_r (hK.2 tR _ hR0).1 h.2.1, kn_R_r (hK.2 tS _ hS0).1 h.2.2.1⟩
  show kq_sL s H a 8 (kl_vC o H0 a)
  rcases ha with ⟨k, hk, rfl⟩ | rfl | rfl
  · rw [kl_vC_A g hk]
    exact (g k hk).2.other (e _ (g k hk).1)
  · unfold kl_vC
    rw [if_pos rfl]
    exact kq_r.ofV hT h.2.2.2.2.2.2.1
  · unfold kl_vC
    rw [if_neg (by omega), if_pos rfl]
    exact kq_r.ofV hT h.2.2.2.2.2.2.2.1
/-- a new KeyCurve -/
theorem kl_newC {o : Nat} {A : Nat → Nat} {cL cR cS : ClassId} {D : va_G} {H0 H : Heap} {s : State} (g : kl_gC o A H0 s) (h : kn_ke D cL cR cS A H o) : ∃ v : Nat → Nat, kl_c o A cL cR cS D H0 H v (fun _ => true) ∧ ∀ q, kl_LC o q → v q = 0 := by
  obtain ⟨h1, h2, h3, h4, h5, h6, h7, h8⟩ := h
  have hv : ∀ q, kl_LC o q → (if o ≤ q ∧ q ≠ o + 25 ∧ q ≠ o + 32 then 0 else kl_vC o H0 q) = 0 := fun q hq => if_pos (by unfold kl_LC at hq; omega)
  refine ⟨fun q => if o ≤ q ∧ q ≠ o + 25 ∧ q ≠ o + 32 then 0 else kl_vC o H0 q, ⟨h1, h2, h4, h6.1, h7.1, h8.1, h6.2.2.2, h7.2.2.2, fun j hj => (h5 j hj).1, fun a ha => ?_, fun a ha => ?_⟩, hv⟩
  · show H[a]? = some (kq_L cL (kl_nC o a) (if o ≤ a ∧ a ≠ o + 25 ∧ a ≠ o + 32 then 0 else kl_vC o H0 a)) ∧ (if o ≤ a ∧ a ≠ o + 25 ∧ a ≠ o + 32 then 0 else kl_vC o H0 a) < kw_M (kl_nC o a)
    rw [hv a ha]
    refine ⟨?_, kw_M_pos _⟩
    unfold kl_nC
    unfold kl_LC at ha
    by_cases hw : a = o + 20 ∨ a = o + 27
    · rw [if_pos hw]
      rcases hw with rfl | rfl
      · exact h6.2.1
      · exact h7.2.1
    · rw [if_neg hw]
      rcases ha with ha | ha | ha | ha | ha
      · have q := h3 (a - (o + 2)) (by omega)
        rw [show o + 2 + (a - (o + 2)) = a by omega] at q
        exact q
      · rcases ha with rfl | rfl | rfl | rfl | rfl | rfl | rfl | rfl
        · exact (h5 0 (by decide)).2.1
        · exact (h5 0 (by decide)).2.2
        · exact (h5 1 (by decide)).2.1
        · exact (h5 1 (by decide)).2.2
        · exact (h5 2 (by decide)).2.1
        · exact (h5 2 (by decide)).2.2
        · exact (h5 3 (by decide)).2.1
        · exact (h5 3 (by decide)).2.2
      · have q := h6.2.2.1 (a - (o + 19)) (by omega) (by omega)
        rw [show o + 19 + (a - (o + 19)) = a by omega] at q
        exact q
      · have q := h7.2.2.1 (a - (o + 26)) (by omega) (by omega)
        rw [show o + 26 + (a - (o + 26)) = a by omega] at q
        exact q
      · have q := h8.2 (a - (o + 33)) (by omega) (by omega)
        rw [show o + 33 + (a - (o + 33)) = a by omega] at q
        exact q
  · show (if o ≤ a ∧ a ≠ o + 25 ∧ a ≠ o + 32 then 0 else kl_vC o H0 a) = kl_vC o H0 a
    refine if_neg ?_
    rcases ha with ⟨k, hk, rfl⟩ | rfl | rfl
    · have := (g k hk).1
      omega
    · omega
    · omega
