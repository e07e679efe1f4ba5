/-! The reference's cells, at the heap as it stands (own rows). -/
def kl_LM (mo q : Nat) : Prop := (mo + 2 ≤ q ∧ q ≤ mo + 5) ∨ (mo + 7 ≤ q ∧ q ≤ mo + 10) ∨ (mo + 12 ≤ q ∧ q ≤ mo + 15) ∨ (mo + 18 ≤ q ∧ q ≤ mo + 31)
def kl_SM (mo : Nat) (B : Nat → Nat) (q : Nat) : Prop := (∃ k, k < 4 ∧ q = B k) ∨ q = mo + 17
def kl_nM (mo q : Nat) : Nat := if q = mo + 21 then 16 else 8
def kl_mv : Nat → Nat := fun k => match k with
  | 0 => kP
  | 1 => kN
  | 2 => kX_G
  | _ => kY_G
theorem kl_mv_lt : ∀ k, k < 4 → kl_mv k < kw_M 8 := by decide +kernel
noncomputable def kl_vM (mo : Nat) (H0 : Heap) (q : Nat) : Nat := if q = mo + 17 then 1 else kl_vI H0 q
noncomputable def kl_M (mo : Nat) (B : Nat → Nat) (cI : ClassId) (D : va_G) (tys : List (ClassId × FieldType)) (H0 H : Heap) : ks_E := (kl_LM mo, kl_SM mo B, kl_nM mo, kl_vM mo H0, cI, D, tys, H)
def kl_gM (o : Nat) (B : Nat → Nat) (H0 : Heap) (s : State) : Prop := ∀ k, k < 4 → B k < o ∧ kq_sI s H0 (B k) 8 (kl_mv k)
theorem kl_vM_B {o mo : Nat} {B : Nat → Nat} {H0 : Heap} {s : State} (g : kl_gM o B H0 s) (hm : o ≤ mo) {k : Nat} (hk : k < 4) : kl_vM mo H0 (B k) = kl_mv k := by
  obtain ⟨h1, h2⟩ := g k hk
  unfold kl_vM
  rw [if_neg (by omega)]
  exact kl_vI_eq (kl_mv_lt k hk) (kl_rI_of h2)
def kl_m (mo : Nat) (B : Nat → Nat) (cI cII cZ : ClassId) (D : va_G) (H0 H : Heap) (w : Nat → Nat) (far : Bool) (bs : Nat → Bool) : Prop :=
  va_P D kr_cl [(mo, .inr (4, [.ref (mo + 1), .ref (mo + 6), .ref (mo + 11), .ref (mo + 16), .ref (mo + 17), .ref (mo + 18), .ref (mo + 19), .ref (mo + 20), .ref (mo + 21), .ref (mo + 22), .ref (mo + 23), .ref (mo + 24), .ref (mo + 25), .ref (mo + 26), .ref (mo + 27), .ref (mo + 28), .ref (mo + 29), .int (kq_z far), .ref (mo + 30), .ref (mo + 31)]))] H ∧ H[mo + 1]? = some (kn_R cII 4 4 (fun j => mo + 2 + j)) ∧ H[mo + 6]? = some (kn_R cII 4 4 (fun j => mo + 7 + j)) ∧ H[mo + 11]? = some (kn_R cII 4 4 (fun j => mo + 12 + j)) ∧ H[mo + 16]? = some (kq_B cZ bs) ∧ H[mo + 17]? = some (kq_I cI 8 1) ∧
  (∀ a, kl_LM mo a → H[a]? = some (kq_I cI (kl_nM mo a) (w a)) ∧ w a < kw_M (kl_nM mo a)) ∧ ∀ a, kl_SM mo B a → w a = kl_vM mo H0 a
theorem kl_m.same {mo : Nat} {B : Nat → Nat} {cI cII cZ : ClassId} {D : va_G} {H0 H H1 : Heap} {w : Nat → Nat} {far : Bool} {bs : Nat → Bool} (h : kl_m mo B cI cII cZ D H0 H w far bs) (e : ∀ q, mo ≤ q → q < mo + 32 → H1[q]? = H[q]?) : kl_m mo B cI cII cZ D H0 H1 w far bs := by
  obtain ⟨h1, h2, h3, h4, h5, h6, h7, h8⟩ := h
  refine ⟨kn_keep h1 (e _ (by omega) (by omega)), (e _ (by omega) (by omega)).trans h2, (e _ (by omega) (by omega)).trans h3, (e _ (by omega) (by omega)).trans h4, (e _ (by omega) (by omega)).trans h5, (e _ (by omega) (by omega)).trans h6, fun a ha => ?_, h8⟩
  rw [e a (by unfold kl_LM at ha; omega) (by unfold kl_LM at ha; omega)]
  exact h7 a ha
theorem kl_okM {o mo : Nat} {B : Nat → Nat} {cI : ClassId} {D : va_G} {tys : List (ClassId × FieldType)} {H0 H : Heap} {s : State} {tI : Nat} (g : kl_gM o B H0 s) (hm : o ≤ mo) (ht : tys[tI]? = some (cI, .int)) : ks_ok (kl_M mo B cI D tys H0 H) := by
  refine ⟨fun a ha => ?_, fun a ha => ?_, tI, ht⟩
  · show ¬ kl_LM mo a
    unfold kl_LM
    rcases ha with ⟨k, hk, rfl⟩ | rfl
    · have := (g k hk).1
      omega
    · omega
  · show kl_vM mo H0 a < kw_M 8
    rcases ha with ⟨k, hk, rfl⟩ | rfl
    · rw [kl_vM_B g hm hk]
      exact kl_mv_lt k hk
    · unfold kl_vM
      rw [if_pos rfl]
      decide +kernel
theorem kl_SB {o mo k : Nat} {B : Nat → Nat} {cI : ClassId} {D : va_G} {tys : List (ClassId × FieldType)} {H0 H : Heap} {s : State} (g : kl_gM o B H0 s) (hm : o ≤ mo) (hk : k < 4) : ks_S (kl_M mo B cI D tys H0 H) (B k) ∧ ks_v (kl_M mo B cI D tys H0 H) (B k) = kl_mv k := ⟨Or.inl ⟨k, hk, rfl⟩, kl_vM_B g hm hk⟩
theorem kl_AM {o mo : Nat} {B : Nat → Nat} {cI : ClassId} {D : va_G} {tys : List (ClassId × FieldType)} {H0 H : Heap} {s : State} (g : kl_gM o B H0 s) (hm : o ≤ mo) : ks_A (kl_M mo B cI D tys H0 H) B := ⟨kl_SB g hm (by decide), kl_SB g hm (by decide), kl_SB g hm (by decide), kl_SB g hm (by decide)⟩
theorem kl_outM {mo q : Nat} {B : Nat → Nat} {cI : ClassId} {D : va_G} {tys : List (ClassId × FieldType)} {H0 H : Heap} (h : kl_LM mo q) (h1 : q ≠ mo + 21) : ks_out (kl_M mo B cI D tys H0 H) q := ⟨h, by show kl_nM mo q = 8; unfold kl_nM; rw [if_neg h1]⟩
theorem kl_GM {mo : Nat} {B : Nat → Nat} {cI : ClassId} {D : va_G} {tys : List (ClassId × FieldType)} {H0 H : Heap} : ks_G (kl_M mo B cI D tys H0 H) mo := by
  have nl : ∀ q, ¬ kl_LM mo q → ¬ ks_L (kl_M mo B cI D tys H0 H) q := fun q hq => hq
  exact ⟨fun j hj => ⟨kl_outM (by unfold kl_LM; omega) (by omega), kl_outM (by unfold kl_LM; omega) (by omega), kl_outM (by unfold kl_LM; omega) (by omega)⟩, nl _ (by unfold kl_LM; omega), nl _ (by unfold kl_LM; omega), nl _ (by unfold kl_LM; omega)⟩
theorem kl_FM {o mo : Nat} {B : Nat → Nat} {cI cII cZ : ClassId} {D : va_G} {tys : List (ClassId × FieldType)} {H0 H : Heap} {s : State} {w : Nat → Nat} {far : Bool} {bs : Nat → Bool} (g : kl_gM o B H0 s) (hm : o ≤ mo) (h : kl_m mo B cI cII cZ D H0 H w far bs) : ks_F (kl_M mo B cI D tys H0 H) mo cZ far bs := by
  have nl : ∀ q, ¬ kl_LM mo q → ¬ ks_L (kl_M mo B cI D tys H0 H) q := fun q hq => hq
  have ns : ∀ q, o ≤ q → q ≠ mo + 17 → ¬ ks_S (kl_M mo B cI D tys H0 H) q := fun q q1 q2 hq => by
    rcases hq with ⟨k, hk, rfl⟩ | rfl
    · have := (g k hk).1
      omega
    · omega
  refine ⟨⟨h.1, nl _ (by unfold kl_LM; omega), fun k k1 k2 k3 => kl_outM (by unfold kl_LM; omega) (by omega), ⟨by show kl_LM mo (mo + 21); unfold kl_LM; omega, by show kl_nM mo (mo + 21) = 16; unfold kl_nM; rw [if_pos rfl]⟩, ⟨Or.inr rfl, by show kl_vM mo H0 (mo + 17) = 1; unfold kl_vM; rw [if_pos rfl]⟩⟩, h.2.2.2.2.1, nl _ (by unfold kl_LM; omega), ns _ hm (by omega), ns _ (by omega) (by omega)⟩
theorem kl_WM {mo : Nat} {B : Nat → Nat} {cI cII cZ : ClassId} {D : va_G} {tys : List (ClassId × FieldType)} {H0 H : Heap} {w : Nat → Nat} {far : Bool} {bs : Nat → Bool} (h : kl_m mo B cI cII cZ D H0 H w far bs) : ks_W (kl_M mo B cI D tys H0 H) w H := ⟨rfl, fun a ha => (h.2.2.2.2.2.2.1 a ha).1, fun _ _ => rfl, fun a ha => (h.2.2.2.2.2.2.1 a ha).2, h.2.2.2.2.2.2.2⟩
def kl_zM (o : Nat) (B : Nat → Nat) (H0 : Heap) (s : State) : Prop := va_Z "KeyCurveModel" "P" "[I" (.ref (B 0)) (fun q => o ≤ q) s H0 ∧ va_Z "KeyCurveModel" "N" "[I" (.ref (B 1)) (fun q => o ≤ q) s H0 ∧ va_Z "KeyCurveModel" "GX" "[I" (.ref (B 2)) (fun q => o ≤ q) s H0 ∧ va_Z "KeyCurveModel" "GY" "[I" (.ref (B 3)) (fun q => o ≤ q) s H0
theorem kl_KM {o mo : Nat} {B : Nat → Nat} {cI cII cZ : ClassId} {D : va_G} {tys : List (ClassId × FieldType)} {H0 H : Heap} {s : State} {w : Nat → Nat} {far : Bool} {bs : Nat → Bool} {tI tII tZ : Nat} (hK : va_K D kr_cl tys s) (hZ : kl_zM o B H0 s) (g : kl_gM o B H0 s) (hm : o ≤ mo) (hI0 : tys[tI]? = some (cI, .int)) (hII0 : tys[tII]? = some (cII, .array .int)) (hZ0 : tys[tZ]? = some (cZ, .boolean)) (e : ∀ q, q < o → H[q]? = H0[q]?) (h : kl_m mo B cI cII cZ D H0 H w far bs) : ks_KZ (kl_M mo B cI D tys H0 H) B mo cZ s := by
  have nL : ∀ q, q < o → ¬ kl_LM mo q := fun q hq => by unfold kl_LM; omega
  have hT := (hK.2 tI _ hI0).1
  refine ⟨⟨⟨⟨hK, fun a ha => ?_⟩, kl_Z hZ.1 e nL, kl_Z hZ.2.1 e nL, kl_Z hZ.2.2.1 e nL, kl_Z hZ.2.2.2 e nL⟩, kn_R_r (hK.2 tII _ hII0).1 h.2.1, kn_R_r (hK.2 tII _ hII0).1 h.2.2.1, kn_R_r (hK.2 tII _ hII0).1 h.2.2.2.1⟩, (hK.2 tZ _ hZ0).1⟩
  show kq_sI s H a 8 (kl_vM mo H0 a)
  rcases ha with ⟨k, hk, rfl⟩ | rfl
  · rw [kl_vM_B g hm hk]
    exact (g k hk).2.other (e _ (g k hk).1)
  · unfold kl_vM
    rw [if_pos rfl]
    exact kq_r.ofV hT h.2.2.2.2.2.1
theorem kl_m.back {o mo : Nat} {B : Nat → Nat} {cI cII cZ : ClassId} {D : va_G} {tys : List (ClassId × FieldType)} {H0 H H1 : Heap} {s : State} {w w1 : Nat → Nat} {far far1 : Bool} {bs bs1 : Nat → Bool} (g : kl_gM o B H0 s) (hm : o ≤ mo) (h : kl_m mo B cI cII cZ D H0 H w far bs) (hX : ks_X (kl_M mo B cI D tys H0 H) mo cZ far1 bs1 w1 H1) : kl_m mo B cI cII cZ D H0 H1 w1 far1 bs1 ∧ H1.size = H.size ∧ ∀ q, q < mo ∨ mo + 32 ≤ q → H1[q]? = H[q]? := by
  obtain ⟨K, hl, hW, hF⟩ := hX
  have e1 : ∀ q, ¬ kl_LM mo q → H1[q]? = K[q]? := hW.2.2.1
  have e2 : ∀ q, ¬ kl_LM mo q → q ≠ mo → q ≠ mo + 16 → K[q]? = H[q]? := hl.2
  have e : ∀ q, ¬ kl_LM mo q → q ≠ mo → q ≠ mo + 16 → H1[q]? = H[q]? := fun q q1 q2 q3 => (e1 q q1).trans (e2 q q1 q2 q3)
  obtain ⟨h1, h2, h3, h4, h5, h6, h7, h8⟩ := h
  refine ⟨⟨kn_keep hF.1.1 (e1 _ (by unfold kl_LM; omega)), (e _ (by unfold kl_LM; omega) (by omega) (by omega)).trans h2, (e _ (by unfold kl_LM; omega) (by omega) (by omega)).trans h3, (e _ (by unfold kl_LM; omega) (by omega) (by omega)).trans h4, (e1 _ (by unfold kl_LM; omega)).trans hF.2.1, (e _ (by unfold kl_LM; omega) (by omega) (by omega)).trans h6, fun a ha => ⟨hW.2.1 a ha, hW.2.2.2.1 a ha⟩, hW.2.2.2.2⟩, hW.1.trans hl.1, fun q hq => e q (by unfold kl_LM; omega) (by omega) (by omega)⟩
theorem kl_newM {o mo : Nat} {B : Nat → Nat} {cI cII cZ : ClassId} {D : va_G} {H0 H : Heap} {s : State} (g : kl_gM o B H0 s) (hm : o ≤ mo) (h : kn_mo D cI cII cZ H mo) : ∃ (w : Nat → Nat) (bs : Nat → Bool), kl_m mo B cI cII cZ D H0 H w false bs ∧ (∀ q, kl_LM mo q → w q = 0) ∧ ∀ j, j < 4 → bs j = true := by
  obtain ⟨h1, ⟨h2, h3, h4⟩, h5, ⟨bs, hb, h6⟩, h7, h8, h9⟩ := h
  have hv : ∀ q, kl_LM mo q → (if mo ≤ q ∧ q ≠ mo + 17 then 0 else kl_vM mo H0 q) = 0 := fun q hq => if_pos (by unfold kl_LM at hq; omega)
  refine ⟨fun q => if mo ≤ q ∧ q ≠ mo + 17 then 0 else kl_vM mo H0 q, bs, ⟨h1, h2, h3, h4, h6, h7, fun a ha => ?_, fun a ha => ?_⟩, hv, hb⟩
  · show H[a]? = some (kq_I cI (kl_nM mo a) (if mo ≤ a ∧ a ≠ mo + 17 then 0 else kl_vM mo H0 a)) ∧ (if mo ≤ a ∧ a ≠ mo + 17 then 0 else kl_vM mo H0 a) < kw_M (kl_nM mo a)
    rw [hv a ha]
    refine ⟨?_, kw_M_pos _⟩
    unfold kl_nM
    unfold kl_LM at ha
    by_cases hw : a = mo + 21
    · rw [if_pos hw, hw]
      exact h9
    · rw [if_neg hw]
      rcases ha with ha | ha | ha | ha
      · have q := (h5 (a - (mo + 2)) (by omega)).1
        rw [show mo + 2 + (a - (mo + 2)) = a by omega] at q
        exact q
      · have q := (h5 (a - (mo + 7)) (by omega)).2.1
        rw [show mo + 7 + (a - (mo + 7)) = a by omega] at q
        exact q
      · have q := (h5 (a - (mo + 12)) (by omega)).2.2
        rw [show mo + 12 + (a - (mo + 12)) = a by omega] at q
        exact q
      · have q := h8 (a - mo) (by omega) (by omega) (by omega)
        rw [show mo + (a - mo) = a by omega] at q
        exact q
  · show (if mo ≤ a ∧ a ≠ mo + 17 then 0 else kl_vM mo H0 a) = kl_vM mo H0 a
    refine if_neg ?_
    rcases ha with ⟨k, hk, rfl⟩ | rfl
    · have := (g k hk).1
      omega
    · omega
