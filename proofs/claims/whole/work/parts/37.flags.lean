/-! KeyCurveModel: its flags, and the world taken anew (own rows). -/
def ks_at (E : ks_E) (B : Heap) : ks_E := (E.1, E.2.1, E.2.2.1, E.2.2.2.1, E.2.2.2.2.1, E.2.2.2.2.2.1, E.2.2.2.2.2.2.1, B)
def kq_B (cZ : ClassId) (bs : Nat → Bool) : Cell := arrV cZ 4 (fun j => .int (kq_z (bs j)))
/-- a heap that differs from E's in rows and flags alone -/
def ks_like (E : ks_E) (mo : Nat) (B : Heap) : Prop := B.size = (ks_H E).size ∧ ∀ q, ¬ ks_L E q → q ≠ mo → q ≠ mo + 16 → B[q]? = (ks_H E)[q]?
/-- the flags in E's heap: isFar, isNone -/
def ks_F (E : ks_E) (mo : Nat) (cZ : ClassId) (far : Bool) (bs : Nat → Bool) : Prop := ks_O E mo far ∧ (ks_H E)[mo + 16]? = some (kq_B cZ bs) ∧ ¬ ks_L E (mo + 16) ∧ ¬ ks_S E mo ∧ ¬ ks_S E (mo + 16)
/-- the world: rows w, flags far and bs, all else as E has it -/
def ks_X (E : ks_E) (mo : Nat) (cZ : ClassId) (far : Bool) (bs : Nat → Bool) (w : Nat → Nat) (H : Heap) : Prop := ∃ B : Heap, ks_like E mo B ∧ ks_W (ks_at E B) w H ∧ ks_F (ks_at E B) mo cZ far bs
theorem ks_O.none {E : ks_E} {mo : Nat} {far : Bool} (h : ks_O E mo far) : ∃ cell : Cell, (ks_H E)[mo]? = some cell ∧ cell.vm = .none := by
  obtain ⟨r, h1, cell, q1, q2, q3, q4⟩ := h.1 0 _ rfl
  exact ⟨cell, q1, q3⟩
theorem kx_Zkeep {C n d : String} {v : Value} {A : Nat → Prop} {U : State} {H H1 : Heap} {mo : Nat} (h : va_Z C n d v A U H) (hq : ∀ a, ¬ A a → a ≠ mo → a ≠ mo + 16 → H1[a]? = H[a]?) (h1 : ∃ cell : Cell, H[mo]? = some cell ∧ cell.vm = .none) (h2 : ∃ cell : Cell, H[mo + 16]? = some cell ∧ cell.vm = .none) : va_Z C n d v A U H1 := by
  obtain ⟨cf, kf, fi, f, a, cell, g1, g2, g3, g4, g5, g6, g7, g8⟩ := h
  have key : ∀ b : Nat, (∃ cell : Cell, H[b]? = some cell ∧ cell.vm = .none) → a ≠ b := by
    intro b hb e
    subst e
    obtain ⟨c2, k1, k2⟩ := hb
    have k3 : cell = c2 := Option.some.inj (g5.symm.trans k1)
    rw [k3, k2] at g6
    cases g6
  exact ⟨cf, kf, fi, f, a, cell, g1, g2, g3, g4, by rw [hq a g8 (key _ h1) (key _ h2)]; exact g5, g6, g7, g8⟩
theorem ks_F.none {E : ks_E} {mo : Nat} {cZ : ClassId} {far : Bool} {bs : Nat → Bool} (h : ks_F E mo cZ far bs) : ∃ cell : Cell, (ks_H E)[mo + 16]? = some cell ∧ cell.vm = .none := ⟨_, h.2.1, rfl⟩
/-- what is known of the tables is known at the heap taken anew -/
theorem ks_K_at {E : ks_E} {A : Nat → Nat} {mo : Nat} {cZ : ClassId} {far : Bool} {bs : Nat → Bool} {B : Heap} {U : State} (hE : ks_ok E) (hG : ks_G E mo) (hF : ks_F E mo cZ far bs) (hl : ks_like E mo B) (hK : ks_K E A mo U) : ks_K (ks_at E B) A mo U := by
  obtain ⟨⟨⟨b1, b2⟩, z⟩, k1, k2, k3⟩ := hK
  have n1 := hF.1.none
  have n2 := hF.none
  refine ⟨⟨⟨b1, fun a ha => ?_⟩, ?_⟩, k1.other (hl.2 _ hG.2.1 (by omega) (by omega)), k2.other (hl.2 _ hG.2.2.1 (by omega) (by omega)), k3.other (hl.2 _ hG.2.2.2 (by omega) (by omega))⟩
  · exact (b2 a ha).other (hl.2 a (hE.1 a ha) (fun e => hF.2.2.2.1 (e ▸ ha)) (fun e => hF.2.2.2.2 (e ▸ ha)))
  · exact ⟨kx_Zkeep z.1 hl.2 n1 n2, kx_Zkeep z.2.1 hl.2 n1 n2, kx_Zkeep z.2.2.1 hl.2 n1 n2, kx_Zkeep z.2.2.2 hl.2 n1 n2⟩
theorem ks_like_refl (E : ks_E) (mo : Nat) : ks_like E mo (ks_H E) := ⟨rfl, fun _ _ _ _ => rfl⟩
theorem ks_X_self {E : ks_E} {mo : Nat} {cZ : ClassId} {far : Bool} {bs : Nat → Bool} {w : Nat → Nat} {H : Heap} (hW : ks_W E w H) (hF : ks_F E mo cZ far bs) : ks_X E mo cZ far bs w H := ⟨ks_H E, ks_like_refl E mo, hW, hF⟩
/-- a flag is written: the heap reached is the new base -/
theorem ks_X_new {E : ks_E} {mo : Nat} {cZ : ClassId} {far far2 : Bool} {bs bs2 : Nat → Bool} {w : Nat → Nat} {H H1 : Heap} (hW : ks_W E w H) (hF : ks_F E mo cZ far bs) (hs : H1.size = H.size) (ho : ∀ q : Nat, q ≠ mo → q ≠ mo + 16 → H1[q]? = H[q]?) (hO : va_P (ks_D E) kr_cl [(mo, .inr (4, [.ref (mo + 1), .ref (mo + 6), .ref (mo + 11), .ref (mo + 16), .ref (mo + 17), .ref (mo + 18), .ref (mo + 19), .ref (mo + 20), .ref (mo + 21), .ref (mo + 22), .ref (mo + 23), .ref (mo + 24), .ref (mo + 25), .ref (mo + 26), .ref (mo + 27), .ref (mo + 28), .ref (mo + 29), .int (kq_z far2), .ref (mo + 30), .ref (mo + 31)]))] H1) (hN : H1[mo + 16]? = some (kq_B cZ bs2)) : ks_X E mo cZ far2 bs2 w H1 := by
  obtain ⟨w1, w2, w3, w4, w5⟩ := hW
  refine ⟨H1, ⟨hs.trans w1, fun q hq q1 q2 => (ho q q1 q2).trans (w3 q hq)⟩, ⟨rfl, fun a ha => ?_, fun _ _ => rfl, w4, w5⟩, ⟨hO, hF.1.2⟩, hN, hF.2.2⟩
  rw [ho a (fun e => hF.1.2.1 (e ▸ ha)) (fun e => hF.2.2.1 (e ▸ ha))]
  exact w2 a ha
