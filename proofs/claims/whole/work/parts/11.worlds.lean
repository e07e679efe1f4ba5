/-! The classes and their fields; worlds of rows (own rows). -/
def F_Cu : u_T := fun k => match k with
  | 0 => ("KeyCurve$Curve", "field", "LKeyCurve$Prime;", true)
  | 1 => ("KeyCurve$Curve", "x", "[J", true)
  | 2 => ("KeyCurve$Curve", "y", "[J", true)
  | 3 => ("KeyCurve$Curve", "z", "[J", true)
  | 4 => ("KeyCurve$Curve", "run", "[J", true)
  | 5 => ("KeyCurve$Curve", "rise", "[J", true)
  | 6 => ("KeyCurve$Curve", "square", "[J", true)
  | 7 => ("KeyCurve$Curve", "cube", "[J", true)
  | 8 => ("KeyCurve$Curve", "shared", "[J", true)
  | 9 => ("KeyCurve$Curve", "found", "[J", true)
  | 10 => ("KeyCurve$Curve", "wanted", "[J", true)
  | _ => ("KeyCurve$Curve", "check", "[J", true)
def t_Cu : Nat → FieldType := fun k => match k with
  | 0 => .object "KeyCurve$Prime"
  | 1 => .array .long
  | 2 => .array .long
  | 3 => .array .long
  | 4 => .array .long
  | 5 => .array .long
  | 6 => .array .long
  | 7 => .array .long
  | 8 => .array .long
  | 9 => .array .long
  | 10 => .array .long
  | _ => .array .long
theorem kt_F_Cu : ∀ w ∈ u_ws R_Cu F_Cu 12, w ∈ kt_all := by
  intro w hw
  obtain ⟨k, hk, rfl⟩ := List.mem_map.mp hw
  have hk := List.mem_range.mp hk
  rcases (show k = 0 ∨ k = 1 ∨ k = 2 ∨ k = 3 ∨ k = 4 ∨ k = 5 ∨ k = 6 ∨ k = 7 ∨ k = 8 ∨ k = 9 ∨ k = 10 ∨ k = 11 by omega) with rfl | rfl | rfl | rfl | rfl | rfl | rfl | rfl | rfl | rfl | rfl | rfl
  · exact kt_w111
  · exact kt_w113
  · exact kt_w115
  · exact kt_w117
  · exact kt_w119
  · exact kt_w121
  · exact kt_w123
  · exact kt_w125
  · exact kt_w127
  · exact kt_w129
  · exact kt_w131
  · exact kt_w133
theorem n_Cu : ∀ a, a < 12 → ∀ b, b < 12 → a ≠ b → (F_Cu a).2.1 ≠ (F_Cu b).2.1 := by decide +kernel
theorem t_Cu_ok : ∀ k, k < 12 → parseFieldDescriptor (F_Cu k).2.2.1 = some (t_Cu k) := by decide +kernel
def F_Pr : u_T := fun k => match k with
  | 0 => ("KeyCurve$Prime", "prime", "[J", true)
  | 1 => ("KeyCurve$Prime", "gap", "[J", true)
  | 2 => ("KeyCurve$Prime", "gapWords", "I", true)
  | 3 => ("KeyCurve$Prime", "inversePower", "[J", true)
  | 4 => ("KeyCurve$Prime", "wide", "[J", true)
  | 5 => ("KeyCurve$Prime", "high", "[J", true)
  | 6 => ("KeyCurve$Prime", "seed", "[J", true)
  | 7 => ("KeyCurve$Prime", "grown", "[J", true)
  | _ => ("KeyCurve$Prime", "trimmed", "[J", true)
def t_Pr : Nat → FieldType := fun k => match k with
  | 0 => .array .long
  | 1 => .array .long
  | 2 => .int
  | 3 => .array .long
  | 4 => .array .long
  | 5 => .array .long
  | 6 => .array .long
  | 7 => .array .long
  | _ => .array .long
theorem kt_F_Pr : ∀ w ∈ u_ws R_Pr F_Pr 9, w ∈ kt_all := by
  intro w hw
  obtain ⟨k, hk, rfl⟩ := List.mem_map.mp hw
  have hk := List.mem_range.mp hk
  rcases (show k = 0 ∨ k = 1 ∨ k = 2 ∨ k = 3 ∨ k = 4 ∨ k = 5 ∨ k = 6 ∨ k = 7 ∨ k = 8 by omega) with rfl | rfl | rfl | rfl | rfl | rfl | rfl | rfl | rfl
  · exact kt_w70
  · exact kt_w72
  · exact kt_w74
  · exact kt_w76
  · exact kt_w78
  · exact kt_w80
  · exact kt_w82
  · exact kt_w84
  · exact kt_w86
theorem n_Pr : ∀ a, a < 9 → ∀ b, b < 9 → a ≠ b → (F_Pr a).2.1 ≠ (F_Pr b).2.1 := by decide +kernel
theorem t_Pr_ok : ∀ k, k < 9 → parseFieldDescriptor (F_Pr k).2.2.1 = some (t_Pr k) := by decide +kernel
def F_Sp : u_T := fun k => match k with
  | 0 => ("KeyCurve$Spot", "x", "[J", true)
  | 1 => ("KeyCurve$Spot", "y", "[J", true)
  | _ => ("KeyCurve$Spot", "isNone", "Z", false)
def t_Sp : Nat → FieldType := fun k => match k with
  | 0 => .array .long
  | 1 => .array .long
  | _ => .boolean
theorem kt_F_Sp : ∀ w ∈ u_ws R_Sp F_Sp 3, w ∈ kt_all := by
  intro w hw
  obtain ⟨k, hk, rfl⟩ := List.mem_map.mp hw
  have hk := List.mem_range.mp hk
  rcases (show k = 0 ∨ k = 1 ∨ k = 2 by omega) with rfl | rfl | rfl
  · exact kt_w35
  · exact kt_w37
  · exact kt_w39
theorem n_Sp : ∀ a, a < 3 → ∀ b, b < 3 → a ≠ b → (F_Sp a).2.1 ≠ (F_Sp b).2.1 := by decide +kernel
theorem t_Sp_ok : ∀ k, k < 3 → parseFieldDescriptor (F_Sp k).2.2.1 = some (t_Sp k) := by decide +kernel
def F_Ke : u_T := fun k => match k with
  | 0 => ("KeyCurve", "registers", "[[J", true)
  | 1 => ("KeyCurve", "points", "[LKeyCurve$Spot;", true)
  | 2 => ("KeyCurve", "field", "LKeyCurve$Prime;", true)
  | 3 => ("KeyCurve", "order", "LKeyCurve$Prime;", true)
  | _ => ("KeyCurve", "curve", "LKeyCurve$Curve;", true)
def t_Ke : Nat → FieldType := fun k => match k with
  | 0 => .array (.array .long)
  | 1 => .array (.object "KeyCurve$Spot")
  | 2 => .object "KeyCurve$Prime"
  | 3 => .object "KeyCurve$Prime"
  | _ => .object "KeyCurve$Curve"
theorem kt_F_Ke : ∀ w ∈ u_ws R_Ke F_Ke 5, w ∈ kt_all := by
  intro w hw
  obtain ⟨k, hk, rfl⟩ := List.mem_map.mp hw
  have hk := List.mem_range.mp hk
  rcases (show k = 0 ∨ k = 1 ∨ k = 2 ∨ k = 3 ∨ k = 4 by omega) with rfl | rfl | rfl | rfl | rfl
  · exact kt_w141
  · exact kt_w143
  · exact kt_w145
  · exact kt_w147
  · exact kt_w149
theorem n_Ke : ∀ a, a < 5 → ∀ b, b < 5 → a ≠ b → (F_Ke a).2.1 ≠ (F_Ke b).2.1 := by decide +kernel
theorem t_Ke_ok : ∀ k, k < 5 → parseFieldDescriptor (F_Ke k).2.2.1 = some (t_Ke k) := by decide +kernel
def F_Mo : u_T := fun k => match k with
  | 0 => ("KeyCurveModel", "register", "[[I", true)
  | 1 => ("KeyCurveModel", "px", "[[I", true)
  | 2 => ("KeyCurveModel", "py", "[[I", true)
  | 3 => ("KeyCurveModel", "isNone", "[Z", true)
  | 4 => ("KeyCurveModel", "one", "[I", true)
  | 5 => ("KeyCurveModel", "rest", "[I", true)
  | 6 => ("KeyCurveModel", "uu", "[I", true)
  | 7 => ("KeyCurveModel", "vv", "[I", true)
  | 8 => ("KeyCurveModel", "product", "[I", true)
  | 9 => ("KeyCurveModel", "slope", "[I", true)
  | 10 => ("KeyCurveModel", "t1", "[I", true)
  | 11 => ("KeyCurveModel", "t2", "[I", true)
  | 12 => ("KeyCurveModel", "t3", "[I", true)
  | 13 => ("KeyCurveModel", "rx", "[I", true)
  | 14 => ("KeyCurveModel", "ry", "[I", true)
  | 15 => ("KeyCurveModel", "na", "[I", true)
  | 16 => ("KeyCurveModel", "nb", "[I", true)
  | 17 => ("KeyCurveModel", "isFar", "Z", false)
  | 18 => ("KeyCurveModel", "ia", "[I", true)
  | _ => ("KeyCurveModel", "ib", "[I", true)
def t_Mo : Nat → FieldType := fun k => match k with
  | 0 => .array (.array .int)
  | 1 => .array (.array .int)
  | 2 => .array (.array .int)
  | 3 => .array .boolean
  | 4 => .array .int
  | 5 => .array .int
  | 6 => .array .int
  | 7 => .array .int
  | 8 => .array .int
  | 9 => .array .int
  | 10 => .array .int
  | 11 => .array .int
  | 12 => .array .int
  | 13 => .array .int
  | 14 => .array .int
  | 15 => .array .int
  | 16 => .array .int
  | 17 => .boolean
  | 18 => .array .int
  | _ => .array .int
theorem kt_F_Mo : ∀ w ∈ u_ws R_Mo F_Mo 20, w ∈ kt_all := by
  intro w hw
  obtain ⟨k, hk, rfl⟩ := List.mem_map.mp hw
  have hk := List.mem_range.mp hk
  rcases (show k = 0 ∨ k = 1 ∨ k = 2 ∨ k = 3 ∨ k = 4 ∨ k = 5 ∨ k = 6 ∨ k = 7 ∨ k = 8 ∨ k = 9 ∨ k = 10 ∨ k = 11 ∨ k = 12 ∨ k = 13 ∨ k = 14 ∨ k = 15 ∨ k = 16 ∨ k = 17 ∨ k = 18 ∨ k = 19 by omega) with rfl | rfl | rfl | rfl | rfl | rfl | rfl | rfl | rfl | rfl | rfl | rfl | rfl | rfl | rfl | rfl | rfl | rfl | rfl | rfl
  · exact kt_w396
  · exact kt_w398
  · exact kt_w400
  · exact kt_w402
  · exact kt_w404
  · exact kt_w406
  · exact kt_w408
  · exact kt_w410
  · exact kt_w412
  · exact kt_w414
  · exact kt_w416
  · exact kt_w418
  · exact kt_w420
  · exact kt_w422
  · exact kt_w424
  · exact kt_w426
  · exact kt_w428
  · exact kt_w430
  · exact kt_w432
  · exact kt_w434
theorem n_Mo : ∀ a, a < 20 → ∀ b, b < 20 → a ≠ b → (F_Mo a).2.1 ≠ (F_Mo b).2.1 := by decide +kernel
theorem t_Mo_ok : ∀ k, k < 20 → parseFieldDescriptor (F_Mo k).2.2.1 = some (t_Mo k) := by decide +kernel
abbrev kr_cl : List vw_C := [(R_Cu, F_Cu, 12), (R_Pr, F_Pr, 9), (R_Sp, F_Sp, 3), (R_Ke, F_Ke, 5), (R_Mo, F_Mo, 20)]
/-- a world of rows of longs: which rows are written, which are only read, lengths, what the read ones hold, the array class, tables, the heap around -/
abbrev kr_E : Type := (Nat → Prop) × (Nat → Prop) × (Nat → Nat) × (Nat → Nat) × ClassId × va_G × (List (ClassId × FieldType)) × Heap
def kr_L (E : kr_E) : Nat → Prop := E.1
def kr_S (E : kr_E) : Nat → Prop := E.2.1
def kr_n (E : kr_E) : Nat → Nat := E.2.2.1
def kr_v (E : kr_E) : Nat → Nat := E.2.2.2.1
def kr_c (E : kr_E) : ClassId := E.2.2.2.2.1
def kr_D (E : kr_E) : va_G := E.2.2.2.2.2.1
def kr_t (E : kr_E) : List (ClassId × FieldType) := E.2.2.2.2.2.2.1
def kr_H (E : kr_E) : Heap := E.2.2.2.2.2.2.2
def kr_ok (E : kr_E) : Prop := (∀ a, kr_S E a → ¬ kr_L E a) ∧ (∀ a, kr_S E a → kr_v E a < kw_M 8) ∧ ∃ k : Nat, (kr_t E)[k]? = some (kr_c E, .long)
def kr_W (E : kr_E) (v : Nat → Nat) (H : Heap) : Prop := H.size = (kr_H E).size ∧ (∀ a, kr_L E a → H[a]? = some (kq_L (kr_c E) (kr_n E a) (v a))) ∧ (∀ q, ¬ kr_L E q → H[q]? = (kr_H E)[q]?) ∧ (∀ a, kr_L E a → v a < kw_M (kr_n E a)) ∧ ∀ a, kr_S E a → v a = kr_v E a
def kr_B (E : kr_E) (U : State) : Prop := va_K (kr_D E) kr_cl (kr_t E) U ∧ ∀ a, kr_S E a → kq_sL U (kr_H E) a 8 (kr_v E a)
def kr_out (E : kr_E) (a : Nat) : Prop := kr_L E a ∧ kr_n E a = 8
def kr_in (E : kr_E) (a : Nat) : Prop := kr_out E a ∨ kr_S E a
theorem kr_st (E : kr_E) : kq_st (kr_B E) := fun _ _ hv q => ⟨va_K.moved hv q.1, fun a ha => (q.2 a ha).moved hv⟩
theorem kr_T {E : kr_E} {U : State} (h : kr_ok E) (hB : kr_B E U) : ArrOfT U (kr_c E) .long := by
  obtain ⟨k, hk⟩ := h.2.2
  exact (hB.1.2 k _ hk).1
theorem kr_src {E : kr_E} {U : State} {v : Nat → Nat} {H : Heap} {a : Nat} (h : kr_ok E) (hW : kr_W E v H) (hB : kr_B E U) (ha : kr_in E a) : kq_sL U H a 8 (v a) := by
  rcases ha with ⟨h1, h2⟩ | h1
  · have e := hW.2.1 a h1
    rw [h2] at e
    exact kq_r.ofV (kr_T h hB) e
  · rw [hW.2.2.2.2 a h1]
    exact (hB.2 a h1).other (hW.2.2.1 a (h.1 a h1))
theorem kr_lt {E : kr_E} {v : Nat → Nat} {H : Heap} {a : Nat} (h : kr_ok E) (hW : kr_W E v H) (ha : kr_in E a) : v a < kw_M 8 := by
  rcases ha with ⟨h1, h2⟩ | h1
  · have e := hW.2.2.2.1 a h1
    rw [h2] at e
    exact e
  · rw [hW.2.2.2.2 a h1]
    exact h.2.1 a h1
theorem kr_row {E : kr_E} {v : Nat → Nat} {H : Heap} {a : Nat} (hW : kr_W E v H) (ha : kr_out E a) : H[a]? = some (kq_L (kr_c E) 8 (v a)) := by
  have e := hW.2.1 a ha.1
  rw [ha.2] at e
  exact e
theorem kr_putn {E : kr_E} {v : Nat → Nat} {H : Heap} {r X k : Nat} (h : kr_ok E) (hW : kr_W E v H) (hr : kr_L E r) (hk : kr_n E r = k) (hX : X < kw_M k) : kr_W E (va_up v r X) (kq_set H r (kq_L (kr_c E) k X)) := by
  have hc := hW.2.1 r hr
  refine ⟨by rw [kq_set_size]; exact hW.1, fun a ha => ?_, fun q hq => ?_, fun a ha => ?_, fun a ha => ?_⟩
  · by_cases e : a = r
    · subst e
      rw [kq_set_at hc, hk]
      simp [va_up]
    · rw [kq_set_ne e, hW.2.1 a ha]
      simp [va_up, e]
  · rw [kq_set_ne (fun e => hq (by rw [e]; exact hr))]
    exact hW.2.2.1 q hq
  · by_cases e : a = r
    · subst e
      rw [hk]
      simp only [va_up, if_pos rfl]
      exact hX
    · simp only [va_up, if_neg e]
      exact hW.2.2.2.1 a ha
  · have e : a ≠ r := fun e => h.1 a ha (by rw [e]; exact hr)
    simp only [va_up, if_neg e]
    exact hW.2.2.2.2 a ha
theorem kr_put {E : kr_E} {v : Nat → Nat} {H : Heap} {r X : Nat} (h : kr_ok E) (hW : kr_W E v H) (hr : kr_out E r) (hX : X < kw_M 8) : kr_W E (va_up v r X) (kq_set H r (kq_L (kr_c E) 8 X)) := kr_putn h hW hr.1 hr.2 hX
theorem kr_same {E : kr_E} {v w : Nat → Nat} {H : Heap} (h : ∀ a, v a = w a) (hW : kr_W E v H) : kr_W E w H := by
  have e : v = w := funext h
  rw [← e]
  exact hW
theorem kr_obj {E : kr_E} {v : Nat → Nat} {H : Heap} {h : Nat} {x : va_E} (hW : kr_W E v H) (hP : va_P (kr_D E) kr_cl [(h, x)] (kr_H E)) (hn : ¬ kr_L E h) : va_P (kr_D E) kr_cl [(h, x)] H := hP.kept (fun k q hk => by
  have h0 : k < 1 := (List.getElem?_eq_some_iff.mp hk).1
  rw [show k = 0 by omega] at hk
  cases hk
  exact hW.2.2.1 h hn)

/-- a world of rows of ints: which rows are written, which are only read, lengths, what the read ones hold, the array class, tables, the heap around -/
abbrev ks_E : Type := (Nat → Prop) × (Nat → Prop) × (Nat → Nat) × (Nat → Nat) × ClassId × va_G × (List (ClassId × FieldType)) × Heap
def ks_L (E : ks_E) : Nat → Prop := E.1
def ks_S (E : ks_E) : Nat → Prop := E.2.1
def ks_n (E : ks_E) : Nat → Nat := E.2.2.1
def ks_v (E : ks_E) : Nat → Nat := E.2.2.2.1
def ks_c (E : ks_E) : ClassId := E.2.2.2.2.1
def ks_D (E : ks_E) : va_G := E.2.2.2.2.2.1
def ks_t (E : ks_E) : List (ClassId × FieldType) := E.2.2.2.2.2.2.1
def ks_H (E : ks_E) : Heap := E.2.2.2.2.2.2.2
def ks_ok (E : ks_E) : Prop := (∀ a, ks_S E a → ¬ ks_L E a) ∧ (∀ a, ks_S E a → ks_v E a < kw_M 8) ∧ ∃ k : Nat, (ks_t E)[k]? = some (ks_c E, .int)
def ks_W (E : ks_E) (v : Nat → Nat) (H : Heap) : Prop := H.size = (ks_H E).size ∧ (∀ a, ks_L E a → H[a]? = some (kq_I (ks_c E) (ks_n E a) (v a))) ∧ (∀ q, ¬ ks_L E q → H[q]? = (ks_H E)[q]?) ∧ (∀ a, ks_L E a → v a < kw_M (ks_n E a)) ∧ ∀ a, ks_S E a → v a = ks_v E a
def ks_B (E : ks_E) (U : State) : Prop := va_K (ks_D E) kr_cl (ks_t E) U ∧ ∀ a, ks_S E a → kq_sI U (ks_H E) a 8 (ks_v E a)
def ks_out (E : ks_E) (a : Nat) : Prop := ks_L E a ∧ ks_n E a = 8
def ks_in (E : ks_E) (a : Nat) : Prop := ks_out E a ∨ ks_S E a
theorem ks_st (E : ks_E) : kq_st (ks_B E) := fun _ _ hv q => ⟨va_K.moved hv q.1, fun a ha => (q.2 a ha).moved hv⟩
theorem ks_T {E : ks_E} {U : State} (h : ks_ok E) (hB : ks_B E U) : ArrOfT U (ks_c E) .int := by
  obtain ⟨k, hk⟩ := h.2.2
  exact (hB.1.2 k _ hk).1
theorem ks_src {E : ks_E} {U : State} {v : Nat → Nat} {H : Heap} {a : Nat} (h : ks_ok E) (hW : ks_W E v H) (hB : ks_B E U) (ha : ks_in E a) : kq_sI U H a 8 (v a) := by
  rcases ha with ⟨h1, h2⟩ | h1
  · have e := hW.2.1 a h1
    rw [h2] at e
    exact kq_r.ofV (ks_T h hB) e
  · rw [hW.2.2.2.2 a h1]
    exact (hB.2 a h1).other (hW.2.2.1 a (h.1 a h1))
theorem ks_lt {E : ks_E} {v : Nat → Nat} {H : Heap} {a : Nat} (h : ks_ok E) (hW : ks_W E v H) (ha : ks_in E a) : v a < kw_M 8 := by
  rcases ha with ⟨h1, h2⟩ | h1
  · have e := hW.2.2.2.1 a h1
    rw [h2] at e
    exact e
  · rw [hW.2.2.2.2 a h1]
    exact h.2.1 a h1
theorem ks_row {E : ks_E} {v : Nat → Nat} {H : Heap} {a : Nat} (hW : ks_W E v H) (ha : ks_out E a) : H[a]? = some (kq_I (ks_c E) 8 (v a)) := by
  have e := hW.2.1 a ha.1
  rw [ha.2] at e
  exact e
theorem ks_putn {E : ks_E} {v : Nat → Nat} {H : Heap} {r X k : Nat} (h : ks_ok E) (hW : ks_W E v H) (hr : ks_L E r) (hk : ks_n E r = k) (hX : X < kw_M k) : ks_W E (va_up v r X) (kq_set H r (kq_I (ks_c E) k X)) := by
  have hc := hW.2.1 r hr
  refine ⟨by rw [kq_set_size]; exact hW.1, fun a ha => ?_, fun q hq => ?_, fun a ha => ?_, fun a ha => ?_⟩
  · by_cases e : a = r
    · subst e
      rw [kq_set_at hc, hk]
      simp [va_up]
    · rw [kq_set_ne e, hW.2.1 a ha]
      simp [va_up, e]
  · rw [kq_set_ne (fun e => hq (by rw [e]; exact hr))]
    exact hW.2.2.1 q hq
  · by_cases e : a = r
    · subst e
      rw [hk]
      simp only [va_up, if_pos rfl]
      exact hX
    · simp only [va_up, if_neg e]
      exact hW.2.2.2.1 a ha
  · have e : a ≠ r := fun e => h.1 a ha (by rw [e]; exact hr)
    simp only [va_up, if_neg e]
    exact hW.2.2.2.2 a ha
theorem ks_put {E : ks_E} {v : Nat → Nat} {H : Heap} {r X : Nat} (h : ks_ok E) (hW : ks_W E v H) (hr : ks_out E r) (hX : X < kw_M 8) : ks_W E (va_up v r X) (kq_set H r (kq_I (ks_c E) 8 X)) := ks_putn h hW hr.1 hr.2 hX
theorem ks_same {E : ks_E} {v w : Nat → Nat} {H : Heap} (h : ∀ a, v a = w a) (hW : ks_W E v H) : ks_W E w H := by
  have e : v = w := funext h
  rw [← e]
  exact hW
theorem ks_obj {E : ks_E} {v : Nat → Nat} {H : Heap} {h : Nat} {x : va_E} (hW : ks_W E v H) (hP : va_P (ks_D E) kr_cl [(h, x)] (ks_H E)) (hn : ¬ ks_L E h) : va_P (ks_D E) kr_cl [(h, x)] H := hP.kept (fun k q hk => by
  have h0 : k < 1 := (List.getElem?_eq_some_iff.mp hk).1
  rw [show k = 0 by omega] at hk
  cases hk
  exact hW.2.2.1 h hn)

theorem kq_up_at {v : Nat → Nat} {r X : Nat} : va_up v r X r = X := by simp [va_up]
theorem kq_up_ne {v : Nat → Nat} {r X q : Nat} (h : q ≠ r) : va_up v r X q = v q := by simp [va_up, h]
theorem kq_recv {D : va_G} {tys : List (ClassId × FieldType)} {s : State} {H : Heap} {a ci : Nat} {fs : List Value} {C : String} {T : u_T} {N : Nat} (hK : va_K D kr_cl tys s) (hP : va_P D kr_cl [(a, .inr (ci, fs))] H) (hc : kr_cl[ci]? = some (C, T, N)) : ∃ cell : Cell, H[a]? = some cell ∧ cell.vm.isStatics = false ∧ s.vm.findClass C = some cell.cls := va_recv (q0 := 0) hK hP hc rfl
section KR
variable {p : Program} {l : Launch} {e : Env} {R : Room} {s : State} {m : MethodId} {args : Array Value} {below : List Frame} {meth : Method} {c : Code} {H : Heap} {locs : List Loc} {cells slots : Nat} {Q : State → Prop}
variable {cc : ByteArray} {pc : Nat} {ls : Array Slot} {rest : List Value}
theorem kq_get {y : Cond} {own C : String} {T : u_T} {N ci index : Nat} {D : va_G} {tys : List (ClassId × FieldType)} {a : Nat} {fs : List Value} {v : Value} (hexec : p.tables.exec = Jvm.exec) (hb : c.code = cc) (hts : ∀ w ∈ y :: kt_all, w.before args s = true) (hin : ∀ w ∈ u_ws C T N, w ∈ kt_all) (hown : s.vm.findClass own = some m.cls) (hK : va_K D kr_cl tys s) (hP : va_P D kr_cl [(a, .inr (ci, fs))] H) (hc : kr_cl[ci]? = some (C, T, N)) (k : Nat) (hk : k < N) (hlink : Cond.fieldLink own index (T k).1 (T k).2.1 (T k).2.2.1 ∈ kt_all) (hv : fs[k]? = some v) (hdg : decode cc pc = .ok (.getfield index, 3))
    (kk : W p l e R s m args below meth c H locs cells slots Q (F0 m (pc + 3) ls (v :: rest))) : W p l e R s m args below meth c H locs cells slots Q (F0 m pc ls (.ref a :: rest)) :=
  va_get hexec hb hts (fun w hw => List.mem_cons_of_mem _ (hin w hw)) hown hK hP 0 rfl hc k hk (hts _ (List.mem_cons_of_mem _ hlink)) (fun _ h => h) hv hdg kk
end KR
