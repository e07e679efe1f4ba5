/-! KeyCurve$Curve: its world; start, twice, measureLine, followLine (own rows). -/
/-- a Curve's object at hc over the Prime at h: its rows behind it -/
def kr_V (E : kr_E) (hc h : Nat) : Prop := va_P (kr_D E) kr_cl [(hc, .inr (0, [.ref h, .ref (hc + 1), .ref (hc + 2), .ref (hc + 3), .ref (hc + 4), .ref (hc + 5), .ref (hc + 6), .ref (hc + 7), .ref (hc + 8), .ref (hc + 9), .ref (hc + 10), .ref (hc + 11)]))] (kr_H E) ∧ ¬ kr_L E hc ∧ (∀ k, 1 ≤ k → k ≤ 11 → kr_out E (hc + k)) ∧ h + 6 < hc
/-- the rows that the Curve's methods write -/
def kr_fr (h hc : Nat) : Nat → Prop := fun q => (h + 1 ≤ q ∧ q ≤ h + 5) ∨ (hc + 1 ≤ q ∧ q ≤ hc + 11)
theorem d_Cu_start_0 : decode b_Cu_start 0 = .ok (.aload_n 0, 1) := by decide +kernel
theorem d_Cu_start_1 : decode b_Cu_start 1 = .ok (.getfield 9, 3) := by decide +kernel
theorem d_Cu_start_4 : decode b_Cu_start 4 = .ok (.getstatic 105, 3) := by decide +kernel
theorem d_Cu_start_7 : decode b_Cu_start 7 = .ok (.invokestatic 49, 3) := by decide +kernel
theorem d_Cu_start_10 : decode b_Cu_start 10 = .ok (.aload_n 0, 1) := by decide +kernel
theorem d_Cu_start_11 : decode b_Cu_start 11 = .ok (.getfield 15, 3) := by decide +kernel
theorem d_Cu_start_14 : decode b_Cu_start 14 = .ok (.getstatic 105, 3) := by decide +kernel
theorem d_Cu_start_17 : decode b_Cu_start 17 = .ok (.invokestatic 49, 3) := by decide +kernel
theorem d_Cu_start_20 : decode b_Cu_start 20 = .ok (.iconst 0, 1) := by decide +kernel
theorem d_Cu_start_21 : decode b_Cu_start 21 = .ok (.istore_n 1, 1) := by decide +kernel
theorem d_Cu_start_22 : decode b_Cu_start 22 = .ok (.iload_n 1, 1) := by decide +kernel
theorem d_Cu_start_23 : decode b_Cu_start 23 = .ok (.bipush 8, 2) := by decide +kernel
theorem d_Cu_start_25 : decode b_Cu_start 25 = .ok (.if_icmp .ge 16, 3) := by decide +kernel
theorem d_Cu_start_28 : decode b_Cu_start 28 = .ok (.aload_n 0, 1) := by decide +kernel
theorem d_Cu_start_29 : decode b_Cu_start 29 = .ok (.getfield 18, 3) := by decide +kernel
theorem d_Cu_start_32 : decode b_Cu_start 32 = .ok (.iload_n 1, 1) := by decide +kernel
theorem d_Cu_start_33 : decode b_Cu_start 33 = .ok (.lconst 0, 1) := by decide +kernel
theorem d_Cu_start_34 : decode b_Cu_start 34 = .ok (.lastore, 1) := by decide +kernel
theorem d_Cu_start_35 : decode b_Cu_start 35 = .ok (.iinc 1 1, 3) := by decide +kernel
theorem d_Cu_start_38 : decode b_Cu_start 38 = .ok (.goto (-16), 3) := by decide +kernel
theorem d_Cu_start_41 : decode b_Cu_start 41 = .ok (.return_, 1) := by decide +kernel
section
variable {p : Program} {l : Launch} {e : Env} {R : Room} {s : State} {m : MethodId} {args : Array Value} {below : List Frame} {meth : Method} {c : Code} {cells slots : Nat} {Q : State → Prop}
set_option maxHeartbeats 4000000 in
set_option maxRecDepth 100000 in
theorem lp_Cu_start (hx : p.tables.exec = Jvm.exec) (hb : c.code = b_Cu_start) (hts : ∀ w ∈ w_Cu_start, w.before args s = true) (hown : s.vm.findClass R_Cu = some m.cls) {E : kr_E} {A : Nat → Nat} {h pa ga gw G hc : Nat} (hE : kr_ok E) (hA : kr_A E A) (hP : kr_P E h pa ga gw kP G) (hV : kr_V E hc h) (hC : kr_C E A s) {v : Nat → Nat}
    (kk : ∀ (w : Nat → Nat) (H : Heap) (ls : Array Slot) (locs : List Loc), kr_W E w H → w (hc + 3) = 0 → (∀ q, q ≠ hc + 3 → w q = v q) → (∀ q ∈ locs, kr_fr h hc q.base) → W p l e R s m args below meth c H locs 0 0 Q (F0 m 41 ls [])) :
    ∀ (n i : Nat) (w : Nat → Nat) (H : Heap) (ls : Array Slot) (locs : List Loc), i + n = 8 → kr_W E w H → w (hc + 3) % kw_M i = 0 → (∀ q, q ≠ hc + 3 → w q = v q) → (∀ q ∈ locs, kr_fr h hc q.base) → lv_has ls 2 [(1, .int (nI i)), (0, .ref hc)] → W p l e R s m args below meth c H locs 0 0 Q (F0 m 22 ls []) := by
  intro n
  induction n with
  | zero =>
    intro i w H ls locs hn hW h1 ho hlc hl
    obtain rfl : i = 8 := by omega
    refine lv_iload_n hx hb d_Cu_start_22 rfl (lv_at hl 0 rfl) ?_
    refine lv_bipush (v := nI 8) hx hb d_Cu_start_23 (by decide) ?_
    refine lv_icmp_ge hx hb d_Cu_start_25 rfl (fun hcc => ?_) (fun hcc => ?_)
    · rw [Nat.mod_eq_of_lt (kr_lt hE hW (Or.inl (hV.2.2.1 3 (by decide) (by decide))))] at h1
      exact kk w H ls locs hW h1 ho hlc
    · exact absurd (nI_le (Nat.le_refl 8) (by decide)) hcc
  | succ n ih =>
    intro i w H ls locs hn hW h1 ho hlc hl
    have hi : i < 8 := by omega
    have hK := hC.1.1
    have hT := kr_T hE hC.1
    have h3 := hV.2.2.1 3 (by decide) (by decide)
    have hO := kr_obj hW hV.1 hV.2.1
    have hW1 := kr_put hE hW h3 (kw_s_lt (kr_lt hE hW (Or.inl h3)) hi (show 0 < 4294967296 by decide))
    refine lv_iload_n hx hb d_Cu_start_22 rfl (lv_at hl 0 rfl) ?_
    refine lv_bipush (v := nI 8) hx hb d_Cu_start_23 (by decide) ?_
    refine lv_icmp_ge hx hb d_Cu_start_25 rfl (fun hcc => ?_) (fun hcc => ?_)
    · exact absurd hcc (nI_ge hi (by decide))
    · refine lv_aload_n hx hb d_Cu_start_28 rfl (lv_at hl 1 rfl) ?_
      refine kq_get hx hb hts kt_F_Cu hown hK hO rfl 3 (by decide) kt_w102 rfl d_Cu_start_29 ?_
      refine lv_iload_n hx hb d_Cu_start_32 rfl (lv_at hl 0 rfl) ?_
      refine lv_lconst (v := lN 0) hx hb d_Cu_start_33 (by decide) ?_
      refine kq_last hx hb (hT) (kr_row hW h3) (hi) (by decide) ((by decide)) d_Cu_start_34 ?_
      refine lv_iinc (k := 0) (v := nI (i + 1)) hx hb d_Cu_start_35 hl rfl (kq_inc i) (by decide) rfl (fun ls hl => ?_)
      have hl : lv_has ls 2 [(1, .int (nI (i + 1))), (0, .ref hc)] := hl
      refine lv_goto hx hb d_Cu_start_38 rfl ?_
      refine ih (i + 1) _ _ ls _ (by omega) hW1 ?_ (fun q hq => by rw [kq_up_ne hq]; exact ho q hq) (t_lc (free := kr_fr h hc) hlc (by unfold kr_fr; omega)) (lv_sub hl [0, 1] rfl)
      rw [kq_up_at, kw_s_lo _ _ _ (by decide), h1]
      rfl
end
set_option maxHeartbeats 4000000 in
set_option maxRecDepth 100000 in
theorem c_Cu_start (l : Launch) (E : kr_E) (A : Nat → Nat) (h pa ga gw G hc : Nat) (v : Nat → Nat) (H : Heap) (hE : kr_ok E) (hA : kr_A E A) (hP : kr_P E h pa ga gw kP G) (hV : kr_V E hc h) (hW : kr_W E v H) : Met l y_Cu_start w_Cu_start ({ frames := 2, cells := 0, slots := 0, locals := 41 }) (kq_P [.ref hc] H (kr_C E A)) (kq_Q (fun o H1 => o = none ∧ ∃ w : Nat → Nat, kr_W E w H1 ∧ w (hc + 3) = 0 ∧ ∀ q, ¬ kr_fr h hc q → w q = v q)) 0 0 (kr_fr h hc) := by
  refine Met.ofW (cc := b_Cu_start) (maxL := 2) (ret := none) (by decide) rfl ?_
  intro p e s m args below meth c s₁ B0 hml hv
  obtain ⟨rfl, hH, hC⟩ := hv
  have hx := B0.exec
  have hb := B0.bytes
  have hret := B0.returns
  have hts := atoms_spec (ws := w_Cu_start) B0.pre
  have hown : s.vm.findClass R_Cu = some m.cls := findClass_of_methodNamed B0.named
  have hlocks := B0.notSynchronized
  rw [hH]
  have hl := lv_entry ([.ref hc]) (n := 2) (Nat.le_of_ble_eq_true rfl)
  rw [lg_entry_eq]
  generalize (lg_sl ([.ref hc]) ++ List.replicate (2 - (lg_sl ([.ref hc])).length) Slot.unset).toArray = ls at hl ⊢
  have hl : lv_has ls 2 [(0, .ref hc)] := hl
  have hB := hC.1
  have hT := kr_T hE hB
  have hK := hB.1
  have hhc := hV.2.2.2
  have hlc0 : ∀ q ∈ ([] : List Loc), kr_fr h hc q.base := fun q h => by cases h
  have h1 := hV.2.2.1 1 (by decide) (by decide)
  have h2 := hV.2.2.1 2 (by decide) (by decide)
  have hO := kr_obj hW hV.1 hV.2.1
  have hs1 := kr_src hE hW hB (Or.inr hA.2.1.1)
  rw [kr_cst hW hA.2.1] at hs1
  refine lv_aload_n hx hb d_Cu_start_0 rfl (lv_at hl 0 rfl) ?_
  refine kq_get hx hb hts kt_F_Cu hown hK hO rfl 1 (by decide) kt_w100 rfl d_Cu_start_1 ?_
  refine kq_getsN hx hb (kr_zat hW hC.2.2.2.1) hown hC.2.1.2.2.2.2 d_Cu_start_4 ?_
  refine kq_call (va_runS (As := [.ref (hc + 1), .ref (A 1)]) (rest := []) ⟨hx, hb, hml, hown, hts⟩ (c_Wo_copy l (kr_c E) H (hc + 1) (A 1) (v (hc + 1)) 1 (kr_row hW h1)) (va_cwS 2 hts (kt_inS kt_w222 kt_w255 kt_w221 kt_w6) rfl rfl rfl (by decide +kernel) ⟨Nat.le_of_ble_eq_true rfl, Nat.le_of_ble_eq_true rfl⟩) (kq_preS (kq_st_A.both kq_st_r) (⟨hT, hs1⟩)) rfl rfl hl.1 rfl (lv_room (Nat.le_of_ble_eq_true rfl)) d_Cu_start_7 ⟨Nat.zero_le _, Nat.zero_le _⟩) (fun v9 H9 L9 hq9 hL9 => ?_)
  obtain ⟨rfl, rfl⟩ := hq9
  refine W.eq (g2 := F0 m 10 ls []) rfl ?_
  have hW1 := kr_put hE hW h1 (show 1 < kw_M 8 by decide +kernel)
  have hO1 := kr_obj hW1 hV.1 hV.2.1
  have hs2 := kr_src hE hW1 hB (Or.inr hA.2.1.1)
  rw [kr_cst hW1 hA.2.1] at hs2
  refine lv_aload_n hx hb d_Cu_start_10 rfl (lv_at hl 0 rfl) ?_
  refine kq_get hx hb hts kt_F_Cu hown hK hO1 rfl 2 (by decide) kt_w101 rfl d_Cu_start_11 ?_
  refine kq_getsN hx hb (kr_zat hW1 hC.2.2.2.1) hown hC.2.1.2.2.2.2 d_Cu_start_14 ?_
  refine kq_call (va_runS (As := [.ref (hc + 2), .ref (A 1)]) (rest := []) ⟨hx, hb, hml, hown, hts⟩ (c_Wo_copy l (kr_c E) _ (hc + 2) (A 1) _ 1 (kr_row hW1 h2)) (va_cwS 2 hts (kt_inS kt_w222 kt_w255 kt_w221 kt_w6) rfl rfl rfl (by decide +kernel) ⟨Nat.le_of_ble_eq_true rfl, Nat.le_of_ble_eq_true rfl⟩) (kq_preS (kq_st_A.both kq_st_r) (⟨hT, hs2⟩)) rfl rfl hl.1 rfl (lv_room (Nat.le_of_ble_eq_true rfl)) d_Cu_start_17 ⟨Nat.zero_le _, Nat.zero_le _⟩) (fun v8 H8 L8 hq8 hL8 => ?_)
  obtain ⟨rfl, rfl⟩ := hq8
  refine W.eq (g2 := F0 m 20 ls []) rfl ?_
  have hW2 := kr_put hE hW1 h2 (show 1 < kw_M 8 by decide +kernel)
  refine lv_iconst (v := nI 0) hx hb d_Cu_start_20 (by decide) ?_
  refine lv_istore_n hx hb d_Cu_start_21 rfl hl (by decide) rfl (fun ls hl => ?_)
  have hl : lv_has ls 2 [(1, .int (nI 0)), (0, .ref hc)] := hl
  refine lp_Cu_start hx hb hts hown hE hA hP hV hC (v := va_up (va_up v (hc + 1) 1) (hc + 2) 1) (fun w3 H3 ls L3 hW3 h3 ho3 hL3 => ?_) 8 0 _ _ ls _ rfl hW2 (by rw [kw_M_0, Nat.mod_one]) (fun _ _ => rfl) (t_lL (free := kr_fr h hc) (t_lL (free := kr_fr h hc) hlc0 (fun q z => by rw [hL9 q z]; unfold kr_fr; omega)) (fun q z => by rw [hL8 q z]; unfold kr_fr; omega)) (lv_sub hl [0, 1] rfl)
  refine W.vret hx hb hret (fun t ht _ => ⟨_, rfl, rfl, w3, by rw [ht]; exact hW3, h3, fun q hq => ?_⟩) hL3 d_Cu_start_41
  unfold kr_fr at hq
  rw [ho3 q (by omega), kq_up_ne (by omega), kq_up_ne (by omega)]
theorem d_Cu_twice_0 : decode b_Cu_twice 0 = .ok (.aload_n 0, 1) := by decide +kernel
theorem d_Cu_twice_1 : decode b_Cu_twice 1 = .ok (.getfield 18, 3) := by decide +kernel
theorem d_Cu_twice_4 : decode b_Cu_twice 4 = .ok (.invokestatic 126, 3) := by decide +kernel
theorem d_Cu_twice_7 : decode b_Cu_twice 7 = .ok (.ifCond .eq 4, 3) := by decide +kernel
theorem d_Cu_twice_10 : decode b_Cu_twice 10 = .ok (.return_, 1) := by decide +kernel
theorem d_Cu_twice_11 : decode b_Cu_twice 11 = .ok (.aload_n 0, 1) := by decide +kernel
theorem d_Cu_twice_12 : decode b_Cu_twice 12 = .ok (.getfield 45, 3) := by decide +kernel
theorem d_Cu_twice_15 : decode b_Cu_twice 15 = .ok (.aload_n 0, 1) := by decide +kernel
theorem d_Cu_twice_16 : decode b_Cu_twice 16 = .ok (.getfield 18, 3) := by decide +kernel
theorem d_Cu_twice_19 : decode b_Cu_twice 19 = .ok (.aload_n 0, 1) := by decide +kernel
theorem d_Cu_twice_20 : decode b_Cu_twice 20 = .ok (.getfield 15, 3) := by decide +kernel
theorem d_Cu_twice_23 : decode b_Cu_twice 23 = .ok (.aload_n 0, 1) := by decide +kernel
theorem d_Cu_twice_24 : decode b_Cu_twice 24 = .ok (.getfield 18, 3) := by decide +kernel
theorem d_Cu_twice_27 : decode b_Cu_twice 27 = .ok (.invokevirtual 68, 3) := by decide +kernel
theorem d_Cu_twice_30 : decode b_Cu_twice 30 = .ok (.aload_n 0, 1) := by decide +kernel
theorem d_Cu_twice_31 : decode b_Cu_twice 31 = .ok (.getfield 45, 3) := by decide +kernel
theorem d_Cu_twice_34 : decode b_Cu_twice 34 = .ok (.aload_n 0, 1) := by decide +kernel
theorem d_Cu_twice_35 : decode b_Cu_twice 35 = .ok (.getfield 18, 3) := by decide +kernel
theorem d_Cu_twice_38 : decode b_Cu_twice 38 = .ok (.aload_n 0, 1) := by decide +kernel
theorem d_Cu_twice_39 : decode b_Cu_twice 39 = .ok (.getfield 18, 3) := by decide +kernel
theorem d_Cu_twice_42 : decode b_Cu_twice 42 = .ok (.aload_n 0, 1) := by decide +kernel
theorem d_Cu_twice_43 : decode b_Cu_twice 43 = .ok (.getfield 18, 3) := by decide +kernel
theorem d_Cu_twice_46 : decode b_Cu_twice 46 = .ok (.invokevirtual 102, 3) := by decide +kernel
theorem d_Cu_twice_49 : decode b_Cu_twice 49 = .ok (.aload_n 0, 1) := by decide +kernel
theorem d_Cu_twice_50 : decode b_Cu_twice 50 = .ok (.getfield 45, 3) := by decide +kernel
theorem d_Cu_twice_53 : decode b_Cu_twice 53 = .ok (.aload_n 0, 1) := by decide +kernel
theorem d_Cu_twice_54 : decode b_Cu_twice 54 = .ok (.getfield 27, 3) := by decide +kernel
theorem d_Cu_twice_57 : decode b_Cu_twice 57 = .ok (.aload_n 0, 1) := by decide +kernel
theorem d_Cu_twice_58 : decode b_Cu_twice 58 = .ok (.getfield 15, 3) := by decide +kernel
theorem d_Cu_twice_61 : decode b_Cu_twice 61 = .ok (.aload_n 0, 1) := by decide +kernel
theorem d_Cu_twice_62 : decode b_Cu_twice 62 = .ok (.getfield 15, 3) := by decide +kernel
theorem d_Cu_twice_65 : decode b_Cu_twice 65 = .ok (.invokevirtual 68, 3) := by decide +kernel
theorem d_Cu_twice_68 : decode b_Cu_twice 68 = .ok (.aload_n 0, 1) := by decide +kernel
theorem d_Cu_twice_69 : decode b_Cu_twice 69 = .ok (.getfield 45, 3) := by decide +kernel
theorem d_Cu_twice_72 : decode b_Cu_twice 72 = .ok (.aload_n 0, 1) := by decide +kernel
theorem d_Cu_twice_73 : decode b_Cu_twice 73 = .ok (.getfield 33, 3) := by decide +kernel
theorem d_Cu_twice_76 : decode b_Cu_twice 76 = .ok (.aload_n 0, 1) := by decide +kernel
theorem d_Cu_twice_77 : decode b_Cu_twice 77 = .ok (.getfield 9, 3) := by decide +kernel
theorem d_Cu_twice_80 : decode b_Cu_twice 80 = .ok (.aload_n 0, 1) := by decide +kernel
theorem d_Cu_twice_81 : decode b_Cu_twice 81 = .ok (.getfield 27, 3) := by decide +kernel
theorem d_Cu_twice_84 : decode b_Cu_twice 84 = .ok (.invokevirtual 68, 3) := by decide +kernel
theorem d_Cu_twice_87 : decode b_Cu_twice 87 = .ok (.aload_n 0, 1) := by decide +kernel
theorem d_Cu_twice_88 : decode b_Cu_twice 88 = .ok (.getfield 45, 3) := by decide +kernel
theorem d_Cu_twice_91 : decode b_Cu_twice 91 = .ok (.aload_n 0, 1) := by decide +kernel
theorem d_Cu_twice_92 : decode b_Cu_twice 92 = .ok (.getfield 33, 3) := by decide +kernel
theorem d_Cu_twice_95 : decode b_Cu_twice 95 = .ok (.aload_n 0, 1) := by decide +kernel
theorem d_Cu_twice_96 : decode b_Cu_twice 96 = .ok (.getfield 33, 3) := by decide +kernel
theorem d_Cu_twice_99 : decode b_Cu_twice 99 = .ok (.aload_n 0, 1) := by decide +kernel
theorem d_Cu_twice_100 : decode b_Cu_twice 100 = .ok (.getfield 33, 3) := by decide +kernel
theorem d_Cu_twice_103 : decode b_Cu_twice 103 = .ok (.invokevirtual 102, 3) := by decide +kernel
theorem d_Cu_twice_106 : decode b_Cu_twice 106 = .ok (.aload_n 0, 1) := by decide +kernel
theorem d_Cu_twice_107 : decode b_Cu_twice 107 = .ok (.getfield 45, 3) := by decide +kernel
theorem d_Cu_twice_110 : decode b_Cu_twice 110 = .ok (.aload_n 0, 1) := by decide +kernel
theorem d_Cu_twice_111 : decode b_Cu_twice 111 = .ok (.getfield 33, 3) := by decide +kernel
theorem d_Cu_twice_114 : decode b_Cu_twice 114 = .ok (.aload_n 0, 1) := by decide +kernel
theorem d_Cu_twice_115 : decode b_Cu_twice 115 = .ok (.getfield 33, 3) := by decide +kernel
theorem d_Cu_twice_118 : decode b_Cu_twice 118 = .ok (.aload_n 0, 1) := by decide +kernel
theorem d_Cu_twice_119 : decode b_Cu_twice 119 = .ok (.getfield 33, 3) := by decide +kernel
theorem d_Cu_twice_122 : decode b_Cu_twice 122 = .ok (.invokevirtual 102, 3) := by decide +kernel
theorem d_Cu_twice_125 : decode b_Cu_twice 125 = .ok (.aload_n 0, 1) := by decide +kernel
theorem d_Cu_twice_126 : decode b_Cu_twice 126 = .ok (.getfield 45, 3) := by decide +kernel
theorem d_Cu_twice_129 : decode b_Cu_twice 129 = .ok (.aload_n 0, 1) := by decide +kernel
theorem d_Cu_twice_130 : decode b_Cu_twice 130 = .ok (.getfield 21, 3) := by decide +kernel
theorem d_Cu_twice_133 : decode b_Cu_twice 133 = .ok (.aload_n 0, 1) := by decide +kernel
theorem d_Cu_twice_134 : decode b_Cu_twice 134 = .ok (.getfield 9, 3) := by decide +kernel
theorem d_Cu_twice_137 : decode b_Cu_twice 137 = .ok (.aload_n 0, 1) := by decide +kernel
theorem d_Cu_twice_138 : decode b_Cu_twice 138 = .ok (.getfield 9, 3) := by decide +kernel
theorem d_Cu_twice_141 : decode b_Cu_twice 141 = .ok (.invokevirtual 68, 3) := by decide +kernel
theorem d_Cu_twice_144 : decode b_Cu_twice 144 = .ok (.aload_n 0, 1) := by decide +kernel
theorem d_Cu_twice_145 : decode b_Cu_twice 145 = .ok (.getfield 45, 3) := by decide +kernel
theorem d_Cu_twice_148 : decode b_Cu_twice 148 = .ok (.aload_n 0, 1) := by decide +kernel
theorem d_Cu_twice_149 : decode b_Cu_twice 149 = .ok (.getfield 24, 3) := by decide +kernel
theorem d_Cu_twice_152 : decode b_Cu_twice 152 = .ok (.aload_n 0, 1) := by decide +kernel
theorem d_Cu_twice_153 : decode b_Cu_twice 153 = .ok (.getfield 21, 3) := by decide +kernel
theorem d_Cu_twice_156 : decode b_Cu_twice 156 = .ok (.aload_n 0, 1) := by decide +kernel
theorem d_Cu_twice_157 : decode b_Cu_twice 157 = .ok (.getfield 21, 3) := by decide +kernel
theorem d_Cu_twice_160 : decode b_Cu_twice 160 = .ok (.invokevirtual 102, 3) := by decide +kernel
theorem d_Cu_twice_163 : decode b_Cu_twice 163 = .ok (.aload_n 0, 1) := by decide +kernel
theorem d_Cu_twice_164 : decode b_Cu_twice 164 = .ok (.getfield 45, 3) := by decide +kernel
theorem d_Cu_twice_167 : decode b_Cu_twice 167 = .ok (.aload_n 0, 1) := by decide +kernel
theorem d_Cu_twice_168 : decode b_Cu_twice 168 = .ok (.getfield 24, 3) := by decide +kernel
theorem d_Cu_twice_171 : decode b_Cu_twice 171 = .ok (.aload_n 0, 1) := by decide +kernel
theorem d_Cu_twice_172 : decode b_Cu_twice 172 = .ok (.getfield 24, 3) := by decide +kernel
theorem d_Cu_twice_175 : decode b_Cu_twice 175 = .ok (.aload_n 0, 1) := by decide +kernel
theorem d_Cu_twice_176 : decode b_Cu_twice 176 = .ok (.getfield 21, 3) := by decide +kernel
theorem d_Cu_twice_179 : decode b_Cu_twice 179 = .ok (.invokevirtual 102, 3) := by decide +kernel
theorem d_Cu_twice_182 : decode b_Cu_twice 182 = .ok (.aload_n 0, 1) := by decide +kernel
theorem d_Cu_twice_183 : decode b_Cu_twice 183 = .ok (.getfield 45, 3) := by decide +kernel
theorem d_Cu_twice_186 : decode b_Cu_twice 186 = .ok (.aload_n 0, 1) := by decide +kernel
theorem d_Cu_twice_187 : decode b_Cu_twice 187 = .ok (.getfield 9, 3) := by decide +kernel
theorem d_Cu_twice_190 : decode b_Cu_twice 190 = .ok (.aload_n 0, 1) := by decide +kernel
theorem d_Cu_twice_191 : decode b_Cu_twice 191 = .ok (.getfield 24, 3) := by decide +kernel
theorem d_Cu_twice_194 : decode b_Cu_twice 194 = .ok (.aload_n 0, 1) := by decide +kernel
theorem d_Cu_twice_195 : decode b_Cu_twice 195 = .ok (.getfield 24, 3) := by decide +kernel
theorem d_Cu_twice_198 : decode b_Cu_twice 198 = .ok (.invokevirtual 68, 3) := by decide +kernel
theorem d_Cu_twice_201 : decode b_Cu_twice 201 = .ok (.aload_n 0, 1) := by decide +kernel
theorem d_Cu_twice_202 : decode b_Cu_twice 202 = .ok (.getfield 45, 3) := by decide +kernel
theorem d_Cu_twice_205 : decode b_Cu_twice 205 = .ok (.aload_n 0, 1) := by decide +kernel
theorem d_Cu_twice_206 : decode b_Cu_twice 206 = .ok (.getfield 9, 3) := by decide +kernel
theorem d_Cu_twice_209 : decode b_Cu_twice 209 = .ok (.aload_n 0, 1) := by decide +kernel
theorem d_Cu_twice_210 : decode b_Cu_twice 210 = .ok (.getfield 9, 3) := by decide +kernel
theorem d_Cu_twice_213 : decode b_Cu_twice 213 = .ok (.aload_n 0, 1) := by decide +kernel
theorem d_Cu_twice_214 : decode b_Cu_twice 214 = .ok (.getfield 33, 3) := by decide +kernel
theorem d_Cu_twice_217 : decode b_Cu_twice 217 = .ok (.invokevirtual 82, 3) := by decide +kernel
theorem d_Cu_twice_220 : decode b_Cu_twice 220 = .ok (.aload_n 0, 1) := by decide +kernel
theorem d_Cu_twice_221 : decode b_Cu_twice 221 = .ok (.getfield 45, 3) := by decide +kernel
theorem d_Cu_twice_224 : decode b_Cu_twice 224 = .ok (.aload_n 0, 1) := by decide +kernel
theorem d_Cu_twice_225 : decode b_Cu_twice 225 = .ok (.getfield 9, 3) := by decide +kernel
theorem d_Cu_twice_228 : decode b_Cu_twice 228 = .ok (.aload_n 0, 1) := by decide +kernel
theorem d_Cu_twice_229 : decode b_Cu_twice 229 = .ok (.getfield 9, 3) := by decide +kernel
theorem d_Cu_twice_232 : decode b_Cu_twice 232 = .ok (.aload_n 0, 1) := by decide +kernel
theorem d_Cu_twice_233 : decode b_Cu_twice 233 = .ok (.getfield 33, 3) := by decide +kernel
theorem d_Cu_twice_236 : decode b_Cu_twice 236 = .ok (.invokevirtual 82, 3) := by decide +kernel
theorem d_Cu_twice_239 : decode b_Cu_twice 239 = .ok (.aload_n 0, 1) := by decide +kernel
theorem d_Cu_twice_240 : decode b_Cu_twice 240 = .ok (.getfield 45, 3) := by decide +kernel
theorem d_Cu_twice_243 : decode b_Cu_twice 243 = .ok (.aload_n 0, 1) := by decide +kernel
theorem d_Cu_twice_244 : decode b_Cu_twice 244 = .ok (.getfield 33, 3) := by decide +kernel
theorem d_Cu_twice_247 : decode b_Cu_twice 247 = .ok (.aload_n 0, 1) := by decide +kernel
theorem d_Cu_twice_248 : decode b_Cu_twice 248 = .ok (.getfield 33, 3) := by decide +kernel
theorem d_Cu_twice_251 : decode b_Cu_twice 251 = .ok (.aload_n 0, 1) := by decide +kernel
theorem d_Cu_twice_252 : decode b_Cu_twice 252 = .ok (.getfield 9, 3) := by decide +kernel
theorem d_Cu_twice_255 : decode b_Cu_twice 255 = .ok (.invokevirtual 82, 3) := by decide +kernel
theorem d_Cu_twice_258 : decode b_Cu_twice 258 = .ok (.aload_n 0, 1) := by decide +kernel
theorem d_Cu_twice_259 : decode b_Cu_twice 259 = .ok (.getfield 45, 3) := by decide +kernel
theorem d_Cu_twice_262 : decode b_Cu_twice 262 = .ok (.aload_n 0, 1) := by decide +kernel
theorem d_Cu_twice_263 : decode b_Cu_twice 263 = .ok (.getfield 15, 3) := by decide +kernel
theorem d_Cu_twice_266 : decode b_Cu_twice 266 = .ok (.aload_n 0, 1) := by decide +kernel
theorem d_Cu_twice_267 : decode b_Cu_twice 267 = .ok (.getfield 24, 3) := by decide +kernel
theorem d_Cu_twice_270 : decode b_Cu_twice 270 = .ok (.aload_n 0, 1) := by decide +kernel
theorem d_Cu_twice_271 : decode b_Cu_twice 271 = .ok (.getfield 33, 3) := by decide +kernel
theorem d_Cu_twice_274 : decode b_Cu_twice 274 = .ok (.invokevirtual 68, 3) := by decide +kernel
theorem d_Cu_twice_277 : decode b_Cu_twice 277 = .ok (.aload_n 0, 1) := by decide +kernel
theorem d_Cu_twice_278 : decode b_Cu_twice 278 = .ok (.getfield 45, 3) := by decide +kernel
theorem d_Cu_twice_281 : decode b_Cu_twice 281 = .ok (.aload_n 0, 1) := by decide +kernel
theorem d_Cu_twice_282 : decode b_Cu_twice 282 = .ok (.getfield 27, 3) := by decide +kernel
theorem d_Cu_twice_285 : decode b_Cu_twice 285 = .ok (.aload_n 0, 1) := by decide +kernel
theorem d_Cu_twice_286 : decode b_Cu_twice 286 = .ok (.getfield 27, 3) := by decide +kernel
theorem d_Cu_twice_289 : decode b_Cu_twice 289 = .ok (.aload_n 0, 1) := by decide +kernel
theorem d_Cu_twice_290 : decode b_Cu_twice 290 = .ok (.getfield 27, 3) := by decide +kernel
theorem d_Cu_twice_293 : decode b_Cu_twice 293 = .ok (.invokevirtual 102, 3) := by decide +kernel
theorem d_Cu_twice_296 : decode b_Cu_twice 296 = .ok (.aload_n 0, 1) := by decide +kernel
theorem d_Cu_twice_297 : decode b_Cu_twice 297 = .ok (.getfield 45, 3) := by decide +kernel
theorem d_Cu_twice_300 : decode b_Cu_twice 300 = .ok (.aload_n 0, 1) := by decide +kernel
theorem d_Cu_twice_301 : decode b_Cu_twice 301 = .ok (.getfield 27, 3) := by decide +kernel
theorem d_Cu_twice_304 : decode b_Cu_twice 304 = .ok (.aload_n 0, 1) := by decide +kernel
theorem d_Cu_twice_305 : decode b_Cu_twice 305 = .ok (.getfield 27, 3) := by decide +kernel
theorem d_Cu_twice_308 : decode b_Cu_twice 308 = .ok (.aload_n 0, 1) := by decide +kernel
theorem d_Cu_twice_309 : decode b_Cu_twice 309 = .ok (.getfield 27, 3) := by decide +kernel
theorem d_Cu_twice_312 : decode b_Cu_twice 312 = .ok (.invokevirtual 68, 3) := by decide +kernel
theorem d_Cu_twice_315 : decode b_Cu_twice 315 = .ok (.aload_n 0, 1) := by decide +kernel
theorem d_Cu_twice_316 : decode b_Cu_twice 316 = .ok (.getfield 45, 3) := by decide +kernel
theorem d_Cu_twice_319 : decode b_Cu_twice 319 = .ok (.aload_n 0, 1) := by decide +kernel
theorem d_Cu_twice_320 : decode b_Cu_twice 320 = .ok (.getfield 27, 3) := by decide +kernel
theorem d_Cu_twice_323 : decode b_Cu_twice 323 = .ok (.aload_n 0, 1) := by decide +kernel
theorem d_Cu_twice_324 : decode b_Cu_twice 324 = .ok (.getfield 27, 3) := by decide +kernel
theorem d_Cu_twice_327 : decode b_Cu_twice 327 = .ok (.aload_n 0, 1) := by decide +kernel
theorem d_Cu_twice_328 : decode b_Cu_twice 328 = .ok (.getfield 27, 3) := by decide +kernel
theorem d_Cu_twice_331 : decode b_Cu_twice 331 = .ok (.invokevirtual 102, 3) := by decide +kernel
theorem d_Cu_twice_334 : decode b_Cu_twice 334 = .ok (.aload_n 0, 1) := by decide +kernel
theorem d_Cu_twice_335 : decode b_Cu_twice 335 = .ok (.getfield 45, 3) := by decide +kernel
theorem d_Cu_twice_338 : decode b_Cu_twice 338 = .ok (.aload_n 0, 1) := by decide +kernel
theorem d_Cu_twice_339 : decode b_Cu_twice 339 = .ok (.getfield 15, 3) := by decide +kernel
theorem d_Cu_twice_342 : decode b_Cu_twice 342 = .ok (.aload_n 0, 1) := by decide +kernel
theorem d_Cu_twice_343 : decode b_Cu_twice 343 = .ok (.getfield 15, 3) := by decide +kernel
theorem d_Cu_twice_346 : decode b_Cu_twice 346 = .ok (.aload_n 0, 1) := by decide +kernel
theorem d_Cu_twice_347 : decode b_Cu_twice 347 = .ok (.getfield 27, 3) := by decide +kernel
theorem d_Cu_twice_350 : decode b_Cu_twice 350 = .ok (.invokevirtual 82, 3) := by decide +kernel
theorem d_Cu_twice_353 : decode b_Cu_twice 353 = .ok (.return_, 1) := by decide +kernel
set_option maxHeartbeats 4000000 in
set_option maxRecDepth 100000 in
theorem c_Cu_twice (l : Launch) (E : kr_E) (A : Nat → Nat) (h pa ga gw G hc : Nat) (v : Nat → Nat) (H : Heap) (hE : kr_ok E) (hA : kr_A E A) (hP : kr_P E h pa ga gw kP G) (hV : kr_V E hc h) (hW : kr_W E v H) (o : Option (Nat × Nat)) (hrep : kc_rep o (v (hc + 1)) (v (hc + 2)) (v (hc + 3))) : Met l y_Cu_twice w_Cu_twice ({ frames := 3, cells := 0, slots := 0, locals := 75 }) (kq_P [.ref hc] H (kr_C E A)) (kq_Q (fun o1 H1 => o1 = none ∧ ∃ w : Nat → Nat, kr_W E w H1 ∧ kc_rep (kc_twice o) (w (hc + 1)) (w (hc + 2)) (w (hc + 3)) ∧ ∀ q, ¬ kr_fr h hc q → w q = v q)) 0 0 (kr_fr h hc) := by
  refine Met.ofW (cc := b_Cu_twice) (maxL := 1) (ret := none) (by decide) rfl ?_
  intro p e s m args below meth c s₁ B0 hml hv
  obtain ⟨rfl, hH, hC⟩ := hv
  have hx := B0.exec
  have hb := B0.bytes
  have hret := B0.returns
  have hts := atoms_spec (ws := w_Cu_twice) B0.pre
  have hown : s.vm.findClass R_Cu = some m.cls := findClass_of_methodNamed B0.named
  have hlocks := B0.notSynchronized
  rw [hH]
  have hl := lv_entry ([.ref hc]) (n := 1) (Nat.le_of_ble_eq_true rfl)
  rw [lg_entry_eq]
  generalize (lg_sl ([.ref hc]) ++ List.replicate (1 - (lg_sl ([.ref hc])).length) Slot.unset).toArray = ls at hl ⊢
  have hl : lv_has ls 1 [(0, .ref hc)] := hl
  have hB := hC.1
  have hT := kr_T hE hB
  have hK := hB.1
  have hhc := hV.2.2.2
  have hlc0 : ∀ q ∈ ([] : List Loc), kr_fr h hc q.base := fun q h => by cases h
  have h3 := hV.2.2.1 3 (by decide) (by decide)
  have hsz := kr_src hE hW hB (Or.inl h3)
  have hlz := kr_lt hE hW (Or.inl h3)
  have hOc0 := kr_obj hW hV.1 hV.2.1
  have hOp0 := kr_obj hW hP.1 hP.2.1
  refine lv_aload_n hx hb d_Cu_twice_0 rfl (lv_at hl 0 rfl) ?_
  refine kq_get hx hb hts kt_F_Cu hown hK hOc0 rfl 3 (by decide) kt_w102 rfl d_Cu_twice_1 ?_
  refine kq_call (va_runS (As := [.ref (hc + 3)]) (rest := []) ⟨hx, hb, hml, hown, hts⟩ (c_Wo_isZero l H (hc + 3) (v (hc + 3)) hlz) (va_cwS 1 hts (kt_inS kt_w236 kt_w329 kt_w235 kt_w6) rfl rfl rfl (by decide +kernel) ⟨Nat.le_of_ble_eq_true rfl, Nat.le_of_ble_eq_true rfl⟩) (kq_preS (kq_st_r) (hsz)) rfl rfl hl.1 rfl (lv_room (Nat.le_of_ble_eq_true rfl)) d_Cu_twice_4 ⟨Nat.zero_le _, Nat.zero_le _⟩) (fun v9 H9 L9 hq9 hL9 => ?_)
  obtain ⟨rfl, e9⟩ := hq9
  rw [e9]
  clear e9
  refine W.eq (g2 := F0 m 7 ls [.int (kq_z (decide (v (hc + 3) = 0)))]) rfl ?_
  have hlc00 := t_lL (free := kr_fr h hc) hlc0 (fun q z => (hL9 q z).elim)
  refine lv_if_eq hx hb d_Cu_twice_7 rfl (fun hcc => ?_) (fun hcc => ?_)
  · have hz : v (hc + 3) ≠ 0 := kq_z_eq.mp hcc
    refine lv_aload_n hx hb d_Cu_twice_11 rfl (lv_at hl 0 rfl) ?_
    refine kq_get hx hb hts kt_F_Cu hown hK hOc0 rfl 0 (by decide) kt_w99 rfl d_Cu_twice_12 ?_
    refine lv_aload_n hx hb d_Cu_twice_15 rfl (lv_at hl 0 rfl) ?_
    refine kq_get hx hb hts kt_F_Cu hown hK hOc0 rfl 3 (by decide) kt_w102 rfl d_Cu_twice_16 ?_
    refine lv_aload_n hx hb d_Cu_twice_19 rfl (lv_at hl 0 rfl) ?_
    refine kq_get hx hb hts kt_F_Cu hown hK hOc0 rfl 2 (by decide) kt_w101 rfl d_Cu_twice_20 ?_
    refine lv_aload_n hx hb d_Cu_twice_23 rfl (lv_at hl 0 rfl) ?_
    refine kq_get hx hb hts kt_F_Cu hown hK hOc0 rfl 3 (by decide) kt_w102 rfl d_Cu_twice_24 ?_
    refine kq_call (va_runV (As := [.ref (hc + 3), .ref (hc + 2), .ref (hc + 3)]) (rest := []) ⟨hx, hb, hml, hown, hts⟩ (c_Pr_product l E h pa ga gw kP G v H hE hP hW (hc + 3) (hc + 2) (hc + 3) (hV.2.2.1 3 (by decide) (by decide)) (Or.inl (hV.2.2.1 2 (by decide) (by decide))) (Or.inl (hV.2.2.1 3 (by decide) (by decide)))) (cwV 3 hts (kt_inV kt_w206 kt_w260 kt_w204 kt_w205 kt_w3) rfl rfl rfl (by decide +kernel) ⟨Nat.le_of_ble_eq_true rfl, Nat.le_of_ble_eq_true rfl⟩) (kq_preV (kr_st E) (hC.1) (kq_recv hC.1.1 hOp0 rfl)) rfl rfl hl.1 rfl (lv_room (Nat.le_of_ble_eq_true rfl)) d_Cu_twice_27 ⟨Nat.zero_le _, Nat.zero_le _⟩) (fun u1 H1 L1 hq1 hL1 => ?_)
    obtain ⟨rfl, w1, hW1, f1, o1⟩ := hq1
    refine W.eq (g2 := F0 m 30 ls []) rfl ?_
    have hlc1 := t_lL (free := kr_fr h hc) hlc00 (fun q z => by rcases hL1 q z with z | z | z <;> (rw [z]; unfold kr_fr; omega))
    have e1 : w1 (hc + 3) = v (hc + 2) * v (hc + 3) % kP := by rw [f1]
    have hOc1 := kr_obj hW1 hV.1 hV.2.1
    have hOp1 := kr_obj hW1 hP.1 hP.2.1
    refine lv_aload_n hx hb d_Cu_twice_30 rfl (lv_at hl 0 rfl) ?_
    refine kq_get hx hb hts kt_F_Cu hown hK hOc1 rfl 0 (by decide) kt_w99 rfl d_Cu_twice_31 ?_
    refine lv_aload_n hx hb d_Cu_twice_34 rfl (lv_at hl 0 rfl) ?_
    refine kq_get hx hb hts kt_F_Cu hown hK hOc1 rfl 3 (by decide) kt_w102 rfl d_Cu_twice_35 ?_
    refine lv_aload_n hx hb d_Cu_twice_38 rfl (lv_at hl 0 rfl) ?_
    refine kq_get hx hb hts kt_F_Cu hown hK hOc1 rfl 3 (by decide) kt_w102 rfl d_Cu_twice_39 ?_
    refine lv_aload_n hx hb d_Cu_twice_42 rfl (lv_at hl 0 rfl) ?_
    refine kq_get hx hb hts kt_F_Cu hown hK hOc1 rfl 3 (by decide) kt_w102 rfl d_Cu_twice_43 ?_
    refine kq_call (va_runV (As := [.ref (hc + 3), .ref (hc + 3), .ref (hc + 3)]) (rest := []) ⟨hx, hb, hml, hown, hts⟩ (c_Pr_sum l E h pa ga gw kP G w1 H1 hE hP hW1 (hc + 3) (hc + 3) (hc + 3) (hV.2.2.1 3 (by decide) (by decide)) (Or.inl (hV.2.2.1 3 (by decide) (by decide))) (Or.inl (hV.2.2.1 3 (by decide) (by decide)))) (cwV 3 hts (kt_inV kt_w176 kt_w305 kt_w174 kt_w175 kt_w3) rfl rfl rfl (by decide +kernel) ⟨Nat.le_of_ble_eq_true rfl, Nat.le_of_ble_eq_true rfl⟩) (kq_preV (kr_st E) (hC.1) (kq_recv hC.1.1 hOp1 rfl)) rfl rfl hl.1 rfl (lv_room (Nat.le_of_ble_eq_true rfl)) d_Cu_twice_46 ⟨Nat.zero_le _, Nat.zero_le _⟩) (fun u2 H2 L2 hq2 hL2 => ?_)
    obtain ⟨rfl, hX2⟩ := hq2
    refine W.eq (g2 := F0 m 49 ls []) rfl ?_
    obtain ⟨w2, f2, o2, hW2⟩ : ∃ w : Nat → Nat, w (hc + 3) = (w1 (hc + 3) + w1 (hc + 3)) % kP ∧ (∀ q, q ≠ hc + 3 → w q = w1 q) ∧ kr_W E w H2 := ⟨_, kq_up_at, fun q hq => kq_up_ne hq, hX2⟩
    have hlc2 := t_lL (free := kr_fr h hc) hlc1 (fun q z => by rw [hL2 q z]; unfold kr_fr; omega)
    have e2 : w2 (hc + 3) = (w1 (hc + 3) + w1 (hc + 3)) % kP := by rw [f2]
    have hOc2 := kr_obj hW2 hV.1 hV.2.1
    have hOp2 := kr_obj hW2 hP.1 hP.2.1
    refine lv_aload_n hx hb d_Cu_twice_49 rfl (lv_at hl 0 rfl) ?_
    refine kq_get hx hb hts kt_F_Cu hown hK hOc2 rfl 0 (by decide) kt_w99 rfl d_Cu_twice_50 ?_
    refine lv_aload_n hx hb d_Cu_twice_53 rfl (lv_at hl 0 rfl) ?_
    refine kq_get hx hb hts kt_F_Cu hown hK hOc2 rfl 6 (by decide) kt_w105 rfl d_Cu_twice_54 ?_
    refine lv_aload_n hx hb d_Cu_twice_57 rfl (lv_at hl 0 rfl) ?_
    refine kq_get hx hb hts kt_F_Cu hown hK hOc2 rfl 2 (by decide) kt_w101 rfl d_Cu_twice_58 ?_
    refine lv_aload_n hx hb d_Cu_twice_61 rfl (lv_at hl 0 rfl) ?_
    refine kq_get hx hb hts kt_F_Cu hown hK hOc2 rfl 2 (by decide) kt_w101 rfl d_Cu_twice_62 ?_
    refine kq_call (va_runV (As := [.ref (hc + 6), .ref (hc + 2), .ref (hc + 2)]) (rest := []) ⟨hx, hb, hml, hown, hts⟩ (c_Pr_product l E h pa ga gw kP G w2 H2 hE hP hW2 (hc + 6) (hc + 2) (hc + 2) (hV.2.2.1 6 (by decide) (by decide)) (Or.inl (hV.2.2.1 2 (by decide) (by decide))) (Or.inl (hV.2.2.1 2 (by decide) (by decide)))) (cwV 3 hts (kt_inV kt_w206 kt_w260 kt_w204 kt_w205 kt_w3) rfl rfl rfl (by decide +kernel) ⟨Nat.le_of_ble_eq_true rfl, Nat.le_of_ble_eq_true rfl⟩) (kq_preV (kr_st E) (hC.1) (kq_recv hC.1.1 hOp2 rfl)) rfl rfl hl.1 rfl (lv_room (Nat.le_of_ble_eq_true rfl)) d_Cu_twice_65 ⟨Nat.zero_le _, Nat.zero_le _⟩) (fun u3 H3 L3 hq3 hL3 => ?_)
    obtain ⟨rfl, w3, hW3, f3, o3⟩ := hq3
    refine W.eq (g2 := F0 m 68 ls []) rfl ?_
    have hlc3 := t_lL (free := kr_fr h hc) hlc2 (fun q z => by rcases hL3 q z with z | z | z <;> (rw [z]; unfold kr_fr; omega))
    have e3 : w3 (hc + 6) = v (hc + 2) * v (hc + 2) % kP := by rw [f3, o2 (hc + 2) (by omega), o1 (hc + 2) (by omega) (by omega) (by omega)]
    have hOc3 := kr_obj hW3 hV.1 hV.2.1
    have hOp3 := kr_obj hW3 hP.1 hP.2.1
    refine lv_aload_n hx hb d_Cu_twice_68 rfl (lv_at hl 0 rfl) ?_
    refine kq_get hx hb hts kt_F_Cu hown hK hOc3 rfl 0 (by decide) kt_w99 rfl d_Cu_twice_69 ?_
    refine lv_aload_n hx hb d_Cu_twice_72 rfl (lv_at hl 0 rfl) ?_
    refine kq_get hx hb hts kt_F_Cu hown hK hOc3 rfl 8 (by decide) kt_w107 rfl d_Cu_twice_73 ?_
    refine lv_aload_n hx hb d_Cu_twice_76 rfl (lv_at hl 0 rfl) ?_
    refine kq_get hx hb hts kt_F_Cu hown hK hOc3 rfl 1 (by decide) kt_w100 rfl d_Cu_twice_77 ?_
    refine lv_aload_n hx hb d_Cu_twice_80 rfl (lv_at hl 0 rfl) ?_
    refine kq_get hx hb hts kt_F_Cu hown hK hOc3 rfl 6 (by decide) kt_w105 rfl d_Cu_twice_81 ?_
    refine kq_call (va_runV (As := [.ref (hc + 8), .ref (hc + 1), .ref (hc + 6)]) (rest := []) ⟨hx, hb, hml, hown, hts⟩ (c_Pr_product l E h pa ga gw kP G w3 H3 hE hP hW3 (hc + 8) (hc + 1) (hc + 6) (hV.2.2.1 8 (by decide) (by decide)) (Or.inl (hV.2.2.1 1 (by decide) (by decide))) (Or.inl (hV.2.2.1 6 (by decide) (by decide)))) (cwV 3 hts (kt_inV kt_w206 kt_w260 kt_w204 kt_w205 kt_w3) rfl rfl rfl (by decide +kernel) ⟨Nat.le_of_ble_eq_true rfl, Nat.le_of_ble_eq_true rfl⟩) (kq_preV (kr_st E) (hC.1) (kq_recv hC.1.1 hOp3 rfl)) rfl rfl hl.1 rfl (lv_room (Nat.le_of_ble_eq_true rfl)) d_Cu_twice_84 ⟨Nat.zero_le _, Nat.zero_le _⟩) (fun u4 H4 L4 hq4 hL4 => ?_)
    obtain ⟨rfl, w4, hW4, f4, o4⟩ := hq4
    refine W.eq (g2 := F0 m 87 ls []) rfl ?_
    have hlc4 := t_lL (free := kr_fr h hc) hlc3 (fun q z => by rcases hL4 q z with z | z | z <;> (rw [z]; unfold kr_fr; omega))
    have e4 : w4 (hc + 8) = v (hc + 1) * w3 (hc + 6) % kP := by rw [f4, o3 (hc + 1) (by omega) (by omega) (by omega), o2 (hc + 1) (by omega), o1 (hc + 1) (by omega) (by omega) (by omega)]
    have hOc4 := kr_obj hW4 hV.1 hV.2.1
    have hOp4 := kr_obj hW4 hP.1 hP.2.1
    refine lv_aload_n hx hb d_Cu_twice_87 rfl (lv_at hl 0 rfl) ?_
    refine kq_get hx hb hts kt_F_Cu hown hK hOc4 rfl 0 (by decide) kt_w99 rfl d_Cu_twice_88 ?_
    refine lv_aload_n hx hb d_Cu_twice_91 rfl (lv_at hl 0 rfl) ?_
    refine kq_get hx hb hts kt_F_Cu hown hK hOc4 rfl 8 (by decide) kt_w107 rfl d_Cu_twice_92 ?_
    refine lv_aload_n hx hb d_Cu_twice_95 rfl (lv_at hl 0 rfl) ?_
    refine kq_get hx hb hts kt_F_Cu hown hK hOc4 rfl 8 (by decide) kt_w107 rfl d_Cu_twice_96 ?_
    refine lv_aload_n hx hb d_Cu_twice_99 rfl (lv_at hl 0 rfl) ?_
    refine kq_get hx hb hts kt_F_Cu hown hK hOc4 rfl 8 (by decide) kt_w107 rfl d_Cu_twice_100 ?_
    refine kq_call (va_runV (As := [.ref (hc + 8), .ref (hc + 8), .ref (hc + 8)]) (rest := []) ⟨hx, hb, hml, hown, hts⟩ (c_Pr_sum l E h pa ga gw kP G w4 H4 hE hP hW4 (hc + 8) (hc + 8) (hc + 8) (hV.2.2.1 8 (by decide) (by decide)) (Or.inl (hV.2.2.1 8 (by decide) (by decide))) (Or.inl (hV.2.2.1 8 (by decide) (by decide)))) (cwV 3 hts (kt_inV kt_w176 kt_w305 kt_w174 kt_w175 kt_w3) rfl rfl rfl (by decide +kernel) ⟨Nat.le_of_ble_eq_true rfl, Nat.le_of_ble_eq_true rfl⟩) (kq_preV (kr_st E) (hC.1) (kq_recv hC.1.1 hOp4 rfl)) rfl rfl hl.1 rfl (lv_room (Nat.le_of_ble_eq_true rfl)) d_Cu_twice_103 ⟨Nat.zero_le _, Nat.zero_le _⟩) (fun u5 H5 L5 hq5 hL5 => ?_)
    obtain ⟨rfl, hX5⟩ := hq5
    refine W.eq (g2 := F0 m 106 ls []) rfl ?_
    obtain ⟨w5, f5, o5, hW5⟩ : ∃ w : Nat → Nat, w (hc + 8) = (w4 (hc + 8) + w4 (hc + 8)) % kP ∧ (∀ q, q ≠ hc + 8 → w q = w4 q) ∧ kr_W E w H5 := ⟨_, kq_up_at, fun q hq => kq_up_ne hq, hX5⟩
    have hlc5 := t_lL (free := kr_fr h hc) hlc4 (fun q z => by rw [hL5 q z]; unfold kr_fr; omega)
    have e5 : w5 (hc + 8) = (w4 (hc + 8) + w4 (hc + 8)) % kP := by rw [f5]
    have hOc5 := kr_obj hW5 hV.1 hV.2.1
    have hOp5 := kr_obj hW5 hP.1 hP.2.1
    refine lv_aload_n hx hb d_Cu_twice_106 rfl (lv_at hl 0 rfl) ?_
    refine kq_get hx hb hts kt_F_Cu hown hK hOc5 rfl 0 (by decide) kt_w99 rfl d_Cu_twice_107 ?_
    refine lv_aload_n hx hb d_Cu_twice_110 rfl (lv_at hl 0 rfl) ?_
    refine kq_get hx hb hts kt_F_Cu hown hK hOc5 rfl 8 (by decide) kt_w107 rfl d_Cu_twice_111 ?_
    refine lv_aload_n hx hb d_Cu_twice_114 rfl (lv_at hl 0 rfl) ?_
    refine kq_get hx hb hts kt_F_Cu hown hK hOc5 rfl 8 (by decide) kt_w107 rfl d_Cu_twice_115 ?_
    refine lv_aload_n hx hb d_Cu_twice_118 rfl (lv_at hl 0 rfl) ?_
    refine kq_get hx hb hts kt_F_Cu hown hK hOc5 rfl 8 (by decide) kt_w107 rfl d_Cu_twice_119 ?_
    refine kq_call (va_runV (As := [.ref (hc + 8), .ref (hc + 8), .ref (hc + 8)]) (rest := []) ⟨hx, hb, hml, hown, hts⟩ (c_Pr_sum l E h pa ga gw kP G w5 H5 hE hP hW5 (hc + 8) (hc + 8) (hc + 8) (hV.2.2.1 8 (by decide) (by decide)) (Or.inl (hV.2.2.1 8 (by decide) (by decide))) (Or.inl (hV.2.2.1 8 (by decide) (by decide)))) (cwV 3 hts (kt_inV kt_w176 kt_w305 kt_w174 kt_w175 kt_w3) rfl rfl rfl (by decide +kernel) ⟨Nat.le_of_ble_eq_true rfl, Nat.le_of_ble_eq_true rfl⟩) (kq_preV (kr_st E) (hC.1) (kq_recv hC.1.1 hOp5 rfl)) rfl rfl hl.1 rfl (lv_room (Nat.le_of_ble_eq_true rfl)) d_Cu_twice_122 ⟨Nat.zero_le _, Nat.zero_le _⟩) (fun u6 H6 L6 hq6 hL6 => ?_)
    obtain ⟨rfl, hX6⟩ := hq6
    refine W.eq (g2 := F0 m 125 ls []) rfl ?_
    obtain ⟨w6, f6, o6, hW6⟩ : ∃ w : Nat → Nat, w (hc + 8) = (w5 (hc + 8) + w5 (hc + 8)) % kP ∧ (∀ q, q ≠ hc + 8 → w q = w5 q) ∧ kr_W E w H6 := ⟨_, kq_up_at, fun q hq => kq_up_ne hq, hX6⟩
    have hlc6 := t_lL (free := kr_fr h hc) hlc5 (fun q z => by rw [hL6 q z]; unfold kr_fr; omega)
    have e6 : w6 (hc + 8) = (w5 (hc + 8) + w5 (hc + 8)) % kP := by rw [f6]
    have hOc6 := kr_obj hW6 hV.1 hV.2.1
    have hOp6 := kr_obj hW6 hP.1 hP.2.1
    refine lv_aload_n hx hb d_Cu_twice_125 rfl (lv_at hl 0 rfl) ?_
    refine kq_get hx hb hts kt_F_Cu hown hK hOc6 rfl 0 (by decide) kt_w99 rfl d_Cu_twice_126 ?_
    refine lv_aload_n hx hb d_Cu_twice_129 rfl (lv_at hl 0 rfl) ?_
    refine kq_get hx hb hts kt_F_Cu hown hK hOc6 rfl 4 (by decide) kt_w103 rfl d_Cu_twice_130 ?_
    refine lv_aload_n hx hb d_Cu_twice_133 rfl (lv_at hl 0 rfl) ?_
    refine kq_get hx hb hts kt_F_Cu hown hK hOc6 rfl 1 (by decide) kt_w100 rfl d_Cu_twice_134 ?_
    refine lv_aload_n hx hb d_Cu_twice_137 rfl (lv_at hl 0 rfl) ?_
    refine kq_get hx hb hts kt_F_Cu hown hK hOc6 rfl 1 (by decide) kt_w100 rfl d_Cu_twice_138 ?_
    refine kq_call (va_runV (As := [.ref (hc + 4), .ref (hc + 1), .ref (hc + 1)]) (rest := []) ⟨hx, hb, hml, hown, hts⟩ (c_Pr_product l E h pa ga gw kP G w6 H6 hE hP hW6 (hc + 4) (hc + 1) (hc + 1) (hV.2.2.1 4 (by decide) (by decide)) (Or.inl (hV.2.2.1 1 (by decide) (by decide))) (Or.inl (hV.2.2.1 1 (by decide) (by decide)))) (cwV 3 hts (kt_inV kt_w206 kt_w260 kt_w204 kt_w205 kt_w3) rfl rfl rfl (by decide +kernel) ⟨Nat.le_of_ble_eq_true rfl, Nat.le_of_ble_eq_true rfl⟩) (kq_preV (kr_st E) (hC.1) (kq_recv hC.1.1 hOp6 rfl)) rfl rfl hl.1 rfl (lv_room (Nat.le_of_ble_eq_true rfl)) d_Cu_twice_141 ⟨Nat.zero_le _, Nat.zero_le _⟩) (fun u7 H7 L7 hq7 hL7 => ?_)
    obtain ⟨rfl, w7, hW7, f7, o7⟩ := hq7
    refine W.eq (g2 := F0 m 144 ls []) rfl ?_
    have hlc7 := t_lL (free := kr_fr h hc) hlc6 (fun q z => by rcases hL7 q z with z | z | z <;> (rw [z]; unfold kr_fr; omega))
    have e7 : w7 (hc + 4) = v (hc + 1) * v (hc + 1) % kP := by rw [f7, o6 (hc + 1) (by omega), o5 (hc + 1) (by omega), o4 (hc + 1) (by omega) (by omega) (by omega), o3 (hc + 1) (by omega) (by omega) (by omega), o2 (hc + 1) (by omega), o1 (hc + 1) (by omega) (by omega) (by omega)]
    have hOc7 := kr_obj hW7 hV.1 hV.2.1
    have hOp7 := kr_obj hW7 hP.1 hP.2.1
    refine lv_aload_n hx hb d_Cu_twice_144 rfl (lv_at hl 0 rfl) ?_
    refine kq_get hx hb hts kt_F_Cu hown hK hOc7 rfl 0 (by decide) kt_w99 rfl d_Cu_twice_145 ?_
    refine lv_aload_n hx hb d_Cu_twice_148 rfl (lv_at hl 0 rfl) ?_
    refine kq_get hx hb hts kt_F_Cu hown hK hOc7 rfl 5 (by decide) kt_w104 rfl d_Cu_twice_149 ?_
    refine lv_aload_n hx hb d_Cu_twice_152 rfl (lv_at hl 0 rfl) ?_
    refine kq_get hx hb hts kt_F_Cu hown hK hOc7 rfl 4 (by decide) kt_w103 rfl d_Cu_twice_153 ?_
    refine lv_aload_n hx hb d_Cu_twice_156 rfl (lv_at hl 0 rfl) ?_
    refine kq_get hx hb hts kt_F_Cu hown hK hOc7 rfl 4 (by decide) kt_w103 rfl d_Cu_twice_157 ?_
    refine kq_call (va_runV (As := [.ref (hc + 5), .ref (hc + 4), .ref (hc + 4)]) (rest := []) ⟨hx, hb, hml, hown, hts⟩ (c_Pr_sum l E h pa ga gw kP G w7 H7 hE hP hW7 (hc + 5) (hc + 4) (hc + 4) (hV.2.2.1 5 (by decide) (by decide)) (Or.inl (hV.2.2.1 4 (by decide) (by decide))) (Or.inl (hV.2.2.1 4 (by decide) (by decide)))) (cwV 3 hts (kt_inV kt_w176 kt_w305 kt_w174 kt_w175 kt_w3) rfl rfl rfl (by decide +kernel) ⟨Nat.le_of_ble_eq_true rfl, Nat.le_of_ble_eq_true rfl⟩) (kq_preV (kr_st E) (hC.1) (kq_recv hC.1.1 hOp7 rfl)) rfl rfl hl.1 rfl (lv_room (Nat.le_of_ble_eq_true rfl)) d_Cu_twice_160 ⟨Nat.zero_le _, Nat.zero_le _⟩) (fun u8 H8 L8 hq8 hL8 => ?_)
    obtain ⟨rfl, hX8⟩ := hq8
    refine W.eq (g2 := F0 m 163 ls []) rfl ?_
    obtain ⟨w8, f8, o8, hW8⟩ : ∃ w : Nat → Nat, w (hc + 5) = (w7 (hc + 4) + w7 (hc + 4)) % kP ∧ (∀ q, q ≠ hc + 5 → w q = w7 q) ∧ kr_W E w H8 := ⟨_, kq_up_at, fun q hq => kq_up_ne hq, hX8⟩
    have hlc8 := t_lL (free := kr_fr h hc) hlc7 (fun q z => by rw [hL8 q z]; unfold kr_fr; omega)
    have e8 : w8 (hc + 5) = (w7 (hc + 4) + w7 (hc + 4)) % kP := by rw [f8]
    have hOc8 := kr_obj hW8 hV.1 hV.2.1
    have hOp8 := kr_obj hW8 hP.1 hP.2.1
    refine lv_aload_n hx hb d_Cu_twice_163 rfl (lv_at hl 0 rfl) ?_
    refine kq_get hx hb hts kt_F_Cu hown hK hOc8 rfl 0 (by decide) kt_w99 rfl d_Cu_twice_164 ?_
    refine lv_aload_n hx hb d_Cu_twice_167 rfl (lv_at hl 0 rfl) ?_
    refine kq_get hx hb hts kt_F_Cu hown hK hOc8 rfl 5 (by decide) kt_w104 rfl d_Cu_twice_168 ?_
    refine lv_aload_n hx hb d_Cu_twice_171 rfl (lv_at hl 0 rfl) ?_
    refine kq_get hx hb hts kt_F_Cu hown hK hOc8 rfl 5 (by decide) kt_w104 rfl d_Cu_twice_172 ?_
    refine lv_aload_n hx hb d_Cu_twice_175 rfl (lv_at hl 0 rfl) ?_
    refine kq_get hx hb hts kt_F_Cu hown hK hOc8 rfl 4 (by decide) kt_w103 rfl d_Cu_twice_176 ?_
    refine kq_call (va_runV (As := [.ref (hc + 5), .ref (hc + 5), .ref (hc + 4)]) (rest := []) ⟨hx, hb, hml, hown, hts⟩ (c_Pr_sum l E h pa ga gw kP G w8 H8 hE hP hW8 (hc + 5) (hc + 5) (hc + 4) (hV.2.2.1 5 (by decide) (by decide)) (Or.inl (hV.2.2.1 5 (by decide) (by decide))) (Or.inl (hV.2.2.1 4 (by decide) (by decide)))) (cwV 3 hts (kt_inV kt_w176 kt_w305 kt_w174 kt_w175 kt_w3) rfl rfl rfl (by decide +kernel) ⟨Nat.le_of_ble_eq_true rfl, Nat.le_of_ble_eq_true rfl⟩) (kq_preV (kr_st E) (hC.1) (kq_recv hC.1.1 hOp8 rfl)) rfl rfl hl.1 rfl (lv_room (Nat.le_of_ble_eq_true rfl)) d_Cu_twice_179 ⟨Nat.zero_le _, Nat.zero_le _⟩) (fun u9 H9 L9 hq9 hL9 => ?_)
    obtain ⟨rfl, hX9⟩ := hq9
    refine W.eq (g2 := F0 m 182 ls []) rfl ?_
    obtain ⟨w9, f9, o9, hW9⟩ : ∃ w : Nat → Nat, w (hc + 5) = (w8 (hc + 5) + w8 (hc + 4)) % kP ∧ (∀ q, q ≠ hc + 5 → w q = w8 q) ∧ kr_W E w H9 := ⟨_, kq_up_at, fun q hq => kq_up_ne hq, hX9⟩
    have hlc9 := t_lL (free := kr_fr h hc) hlc8 (fun q z => by rw [hL9 q z]; unfold kr_fr; omega)
    have e9 : w9 (hc + 5) = (w8 (hc + 5) + w7 (hc + 4)) % kP := by rw [f9, o8 (hc + 4) (by omega)]
    have hOc9 := kr_obj hW9 hV.1 hV.2.1
    have hOp9 := kr_obj hW9 hP.1 hP.2.1
    refine lv_aload_n hx hb d_Cu_twice_182 rfl (lv_at hl 0 rfl) ?_
    refine kq_get hx hb hts kt_F_Cu hown hK hOc9 rfl 0 (by decide) kt_w99 rfl d_Cu_twice_183 ?_
    refine lv_aload_n hx hb d_Cu_twice_186 rfl (lv_at hl 0 rfl) ?_
    refine kq_get hx hb hts kt_F_Cu hown hK hOc9 rfl 1 (by decide) kt_w100 rfl d_Cu_twice_187 ?_
    refine lv_aload_n hx hb d_Cu_twice_190 rfl (lv_at hl 0 rfl) ?_
    refine kq_get hx hb hts kt_F_Cu hown hK hOc9 rfl 5 (by decide) kt_w104 rfl d_Cu_twice_191 ?_
    refine lv_aload_n hx hb d_Cu_twice_194 rfl (lv_at hl 0 rfl) ?_
    refine kq_get hx hb hts kt_F_Cu hown hK hOc9 rfl 5 (by decide) kt_w104 rfl d_Cu_twice_195 ?_
    refine kq_call (va_runV (As := [.ref (hc + 1), .ref (hc + 5), .ref (hc + 5)]) (rest := []) ⟨hx, hb, hml, hown, hts⟩ (c_Pr_product l E h pa ga gw kP G w9 H9 hE hP hW9 (hc + 1) (hc + 5) (hc + 5) (hV.2.2.1 1 (by decide) (by decide)) (Or.inl (hV.2.2.1 5 (by decide) (by decide))) (Or.inl (hV.2.2.1 5 (by decide) (by decide)))) (cwV 3 hts (kt_inV kt_w206 kt_w260 kt_w204 kt_w205 kt_w3) rfl rfl rfl (by decide +kernel) ⟨Nat.le_of_ble_eq_true rfl, Nat.le_of_ble_eq_true rfl⟩) (kq_preV (kr_st E) (hC.1) (kq_recv hC.1.1 hOp9 rfl)) rfl rfl hl.1 rfl (lv_room (Nat.le_of_ble_eq_true rfl)) d_Cu_twice_198 ⟨Nat.zero_le _, Nat.zero_le _⟩) (fun u10 H10 L10 hq10 hL10 => ?_)
    obtain ⟨rfl, w10, hW10, f10, o10⟩ := hq10
    refine W.eq (g2 := F0 m 201 ls []) rfl ?_
    have hlc10 := t_lL (free := kr_fr h hc) hlc9 (fun q z => by rcases hL10 q z with z | z | z <;> (rw [z]; unfold kr_fr; omega))
    have e10 : w10 (hc + 1) = w9 (hc + 5) * w9 (hc + 5) % kP := by rw [f10]
    have hOc10 := kr_obj hW10 hV.1 hV.2.1
    have hOp10 := kr_obj hW10 hP.1 hP.2.1
    refine lv_aload_n hx hb d_Cu_twice_201 rfl (lv_at hl 0 rfl) ?_
    refine kq_get hx hb hts kt_F_Cu hown hK hOc10 rfl 0 (by decide) kt_w99 rfl d_Cu_twice_202 ?_
    refine lv_aload_n hx hb d_Cu_twice_205 rfl (lv_at hl 0 rfl) ?_
    refine kq_get hx hb hts kt_F_Cu hown hK hOc10 rfl 1 (by decide) kt_w100 rfl d_Cu_twice_206 ?_
    refine lv_aload_n hx hb d_Cu_twice_209 rfl (lv_at hl 0 rfl) ?_
    refine kq_get hx hb hts kt_F_Cu hown hK hOc10 rfl 1 (by decide) kt_w100 rfl d_Cu_twice_210 ?_
    refine lv_aload_n hx hb d_Cu_twice_213 rfl (lv_at hl 0 rfl) ?_
    refine kq_get hx hb hts kt_F_Cu hown hK hOc10 rfl 8 (by decide) kt_w107 rfl d_Cu_twice_214 ?_
    refine kq_call (va_runV (As := [.ref (hc + 1), .ref (hc + 1), .ref (hc + 8)]) (rest := []) ⟨hx, hb, hml, hown, hts⟩ (c_Pr_difference l E h pa ga gw kP G w10 H10 hE hP hW10 (hc + 1) (hc + 1) (hc + 8) (hV.2.2.1 1 (by decide) (by decide)) (Or.inl (hV.2.2.1 1 (by decide) (by decide))) (Or.inl (hV.2.2.1 8 (by decide) (by decide)))) (cwV 3 hts (kt_inV kt_w198 kt_w268 kt_w196 kt_w197 kt_w3) rfl rfl rfl (by decide +kernel) ⟨Nat.le_of_ble_eq_true rfl, Nat.le_of_ble_eq_true rfl⟩) (kq_preV (kr_st E) (hC.1) (kq_recv hC.1.1 hOp10 rfl)) rfl rfl hl.1 rfl (lv_room (Nat.le_of_ble_eq_true rfl)) d_Cu_twice_217 ⟨Nat.zero_le _, Nat.zero_le _⟩) (fun u11 H11 L11 hq11 hL11 => ?_)
    obtain ⟨rfl, hX11⟩ := hq11
    refine W.eq (g2 := F0 m 220 ls []) rfl ?_
    obtain ⟨w11, f11, o11, hW11⟩ : ∃ w : Nat → Nat, w (hc + 1) = kp_dif kP (w10 (hc + 1)) (w10 (hc + 8)) ∧ (∀ q, q ≠ hc + 1 → w q = w10 q) ∧ kr_W E w H11 := ⟨_, kq_up_at, fun q hq => kq_up_ne hq, hX11⟩
    have hlc11 := t_lL (free := kr_fr h hc) hlc10 (fun q z => by rw [hL11 q z]; unfold kr_fr; omega)
    have e11 : w11 (hc + 1) = kp_dif kP (w10 (hc + 1)) (w6 (hc + 8)) := by rw [f11, o10 (hc + 8) (by omega) (by omega) (by omega), o9 (hc + 8) (by omega), o8 (hc + 8) (by omega), o7 (hc + 8) (by omega) (by omega) (by omega)]
    have hOc11 := kr_obj hW11 hV.1 hV.2.1
    have hOp11 := kr_obj hW11 hP.1 hP.2.1
    refine lv_aload_n hx hb d_Cu_twice_220 rfl (lv_at hl 0 rfl) ?_
    refine kq_get hx hb hts kt_F_Cu hown hK hOc11 rfl 0 (by decide) kt_w99 rfl d_Cu_twice_221 ?_
    refine lv_aload_n hx hb d_Cu_twice_224 rfl (lv_at hl 0 rfl) ?_
    refine kq_get hx hb hts kt_F_Cu hown hK hOc11 rfl 1 (by decide) kt_w100 rfl d_Cu_twice_225 ?_
    refine lv_aload_n hx hb d_Cu_twice_228 rfl (lv_at hl 0 rfl) ?_
    refine kq_get hx hb hts kt_F_Cu hown hK hOc11 rfl 1 (by decide) kt_w100 rfl d_Cu_twice_229 ?_
    refine lv_aload_n hx hb d_Cu_twice_232 rfl (lv_at hl 0 rfl) ?_
    refine kq_get hx hb hts kt_F_Cu hown hK hOc11 rfl 8 (by decide) kt_w107 rfl d_Cu_twice_233 ?_
    refine kq_call (va_runV (As := [.ref (hc + 1), .ref (hc + 1), .ref (hc + 8)]) (rest := []) ⟨hx, hb, hml, hown, hts⟩ (c_Pr_difference l E h pa ga gw kP G w11 H11 hE hP hW11 (hc + 1) (hc + 1) (hc + 8) (hV.2.2.1 1 (by decide) (by decide)) (Or.inl (hV.2.2.1 1 (by decide) (by decide))) (Or.inl (hV.2.2.1 8 (by decide) (by decide)))) (cwV 3 hts (kt_inV kt_w198 kt_w268 kt_w196 kt_w197 kt_w3) rfl rfl rfl (by decide +kernel) ⟨Nat.le_of_ble_eq_true rfl, Nat.le_of_ble_eq_true rfl⟩) (kq_preV (kr_st E) (hC.1) (kq_recv hC.1.1 hOp11 rfl)) rfl rfl hl.1 rfl (lv_room (Nat.le_of_ble_eq_true rfl)) d_Cu_twice_236 ⟨Nat.zero_le _, Nat.zero_le _⟩) (fun u12 H12 L12 hq12 hL12 => ?_)
    obtain ⟨rfl, hX12⟩ := hq12
    refine W.eq (g2 := F0 m 239 ls []) rfl ?_
    obtain ⟨w12, f12, o12, hW12⟩ : ∃ w : Nat → Nat, w (hc + 1) = kp_dif kP (w11 (hc + 1)) (w11 (hc + 8)) ∧ (∀ q, q ≠ hc + 1 → w q = w11 q) ∧ kr_W E w H12 := ⟨_, kq_up_at, fun q hq => kq_up_ne hq, hX12⟩
    have hlc12 := t_lL (free := kr_fr h hc) hlc11 (fun q z => by rw [hL12 q z]; unfold kr_fr; omega)
    have e12 : w12 (hc + 1) = kp_dif kP (w11 (hc + 1)) (w6 (hc + 8)) := by rw [f12, o11 (hc + 8) (by omega), o10 (hc + 8) (by omega) (by omega) (by omega), o9 (hc + 8) (by omega), o8 (hc + 8) (by omega), o7 (hc + 8) (by omega) (by omega) (by omega)]
    have hOc12 := kr_obj hW12 hV.1 hV.2.1
    have hOp12 := kr_obj hW12 hP.1 hP.2.1
    refine lv_aload_n hx hb d_Cu_twice_239 rfl (lv_at hl 0 rfl) ?_
    refine kq_get hx hb hts kt_F_Cu hown hK hOc12 rfl 0 (by decide) kt_w99 rfl d_Cu_twice_240 ?_
    refine lv_aload_n hx hb d_Cu_twice_243 rfl (lv_at hl 0 rfl) ?_
    refine kq_get hx hb hts kt_F_Cu hown hK hOc12 rfl 8 (by decide) kt_w107 rfl d_Cu_twice_244 ?_
    refine lv_aload_n hx hb d_Cu_twice_247 rfl (lv_at hl 0 rfl) ?_
    refine kq_get hx hb hts kt_F_Cu hown hK hOc12 rfl 8 (by decide) kt_w107 rfl d_Cu_twice_248 ?_
    refine lv_aload_n hx hb d_Cu_twice_251 rfl (lv_at hl 0 rfl) ?_
    refine kq_get hx hb hts kt_F_Cu hown hK hOc12 rfl 1 (by decide) kt_w100 rfl d_Cu_twice_252 ?_
    refine kq_call (va_runV (As := [.ref (hc + 8), .ref (hc + 8), .ref (hc + 1)]) (rest := []) ⟨hx, hb, hml, hown, hts⟩ (c_Pr_difference l E h pa ga gw kP G w12 H12 hE hP hW12 (hc + 8) (hc + 8) (hc + 1) (hV.2.2.1 8 (by decide) (by decide)) (Or.inl (hV.2.2.1 8 (by decide) (by decide))) (Or.inl (hV.2.2.1 1 (by decide) (by decide)))) (cwV 3 hts (kt_inV kt_w198 kt_w268 kt_w196 kt_w197 kt_w3) rfl rfl rfl (by decide +kernel) ⟨Nat.le_of_ble_eq_true rfl, Nat.le_of_ble_eq_true rfl⟩) (kq_preV (kr_st E) (hC.1) (kq_recv hC.1.1 hOp12 rfl)) rfl rfl hl.1 rfl (lv_room (Nat.le_of_ble_eq_true rfl)) d_Cu_twice_255 ⟨Nat.zero_le _, Nat.zero_le _⟩) (fun u13 H13 L13 hq13 hL13 => ?_)
    obtain ⟨rfl, hX13⟩ := hq13
    refine W.eq (g2 := F0 m 258 ls []) rfl ?_
    obtain ⟨w13, f13, o13, hW13⟩ : ∃ w : Nat → Nat, w (hc + 8) = kp_dif kP (w12 (hc + 8)) (w12 (hc + 1)) ∧ (∀ q, q ≠ hc + 8 → w q = w12 q) ∧ kr_W E w H13 := ⟨_, kq_up_at, fun q hq => kq_up_ne hq, hX13⟩
    have hlc13 := t_lL (free := kr_fr h hc) hlc12 (fun q z => by rw [hL13 q z]; unfold kr_fr; omega)
    have e13 : w13 (hc + 8) = kp_dif kP (w6 (hc + 8)) (w12 (hc + 1)) := by rw [f13, o12 (hc + 8) (by omega), o11 (hc + 8) (by omega), o10 (hc + 8) (by omega) (by omega) (by omega), o9 (hc + 8) (by omega), o8 (hc + 8) (by omega), o7 (hc + 8) (by omega) (by omega) (by omega)]
    have hOc13 := kr_obj hW13 hV.1 hV.2.1
    have hOp13 := kr_obj hW13 hP.1 hP.2.1
    refine lv_aload_n hx hb d_Cu_twice_258 rfl (lv_at hl 0 rfl) ?_
    refine kq_get hx hb hts kt_F_Cu hown hK hOc13 rfl 0 (by decide) kt_w99 rfl d_Cu_twice_259 ?_
    refine lv_aload_n hx hb d_Cu_twice_262 rfl (lv_at hl 0 rfl) ?_
    refine kq_get hx hb hts kt_F_Cu hown hK hOc13 rfl 2 (by decide) kt_w101 rfl d_Cu_twice_263 ?_
    refine lv_aload_n hx hb d_Cu_twice_266 rfl (lv_at hl 0 rfl) ?_
    refine kq_get hx hb hts kt_F_Cu hown hK hOc13 rfl 5 (by decide) kt_w104 rfl d_Cu_twice_267 ?_
    refine lv_aload_n hx hb d_Cu_twice_270 rfl (lv_at hl 0 rfl) ?_
    refine kq_get hx hb hts kt_F_Cu hown hK hOc13 rfl 8 (by decide) kt_w107 rfl d_Cu_twice_271 ?_
    refine kq_call (va_runV (As := [.ref (hc + 2), .ref (hc + 5), .ref (hc + 8)]) (rest := []) ⟨hx, hb, hml, hown, hts⟩ (c_Pr_product l E h pa ga gw kP G w13 H13 hE hP hW13 (hc + 2) (hc + 5) (hc + 8) (hV.2.2.1 2 (by decide) (by decide)) (Or.inl (hV.2.2.1 5 (by decide) (by decide))) (Or.inl (hV.2.2.1 8 (by decide) (by decide)))) (cwV 3 hts (kt_inV kt_w206 kt_w260 kt_w204 kt_w205 kt_w3) rfl rfl rfl (by decide +kernel) ⟨Nat.le_of_ble_eq_true rfl, Nat.le_of_ble_eq_true rfl⟩) (kq_preV (kr_st E) (hC.1) (kq_recv hC.1.1 hOp13 rfl)) rfl rfl hl.1 rfl (lv_room (Nat.le_of_ble_eq_true rfl)) d_Cu_twice_274 ⟨Nat.zero_le _, Nat.zero_le _⟩) (fun u14 H14 L14 hq14 hL14 => ?_)
    obtain ⟨rfl, w14, hW14, f14, o14⟩ := hq14
    refine W.eq (g2 := F0 m 277 ls []) rfl ?_
    have hlc14 := t_lL (free := kr_fr h hc) hlc13 (fun q z => by rcases hL14 q z with z | z | z <;> (rw [z]; unfold kr_fr; omega))
    have e14 : w14 (hc + 2) = w9 (hc + 5) * w13 (hc + 8) % kP := by rw [f14, o13 (hc + 5) (by omega), o12 (hc + 5) (by omega), o11 (hc + 5) (by omega), o10 (hc + 5) (by omega) (by omega) (by omega)]
    have hOc14 := kr_obj hW14 hV.1 hV.2.1
    have hOp14 := kr_obj hW14 hP.1 hP.2.1
    refine lv_aload_n hx hb d_Cu_twice_277 rfl (lv_at hl 0 rfl) ?_
    refine kq_get hx hb hts kt_F_Cu hown hK hOc14 rfl 0 (by decide) kt_w99 rfl d_Cu_twice_278 ?_
    refine lv_aload_n hx hb d_Cu_twice_281 rfl (lv_at hl 0 rfl) ?_
    refine kq_get hx hb hts kt_F_Cu hown hK hOc14 rfl 6 (by decide) kt_w105 rfl d_Cu_twice_282 ?_
    refine lv_aload_n hx hb d_Cu_twice_285 rfl (lv_at hl 0 rfl) ?_
    refine kq_get hx hb hts kt_F_Cu hown hK hOc14 rfl 6 (by decide) kt_w105 rfl d_Cu_twice_286 ?_
    refine lv_aload_n hx hb d_Cu_twice_289 rfl (lv_at hl 0 rfl) ?_
    refine kq_get hx hb hts kt_F_Cu hown hK hOc14 rfl 6 (by decide) kt_w105 rfl d_Cu_twice_290 ?_
    refine kq_call (va_runV (As := [.ref (hc + 6), .ref (hc + 6), .ref (hc + 6)]) (rest := []) ⟨hx, hb, hml, hown, hts⟩ (c_Pr_sum l E h pa ga gw kP G w14 H14 hE hP hW14 (hc + 6) (hc + 6) (hc + 6) (hV.2.2.1 6 (by decide) (by decide)) (Or.inl (hV.2.2.1 6 (by decide) (by decide))) (Or.inl (hV.2.2.1 6 (by decide) (by decide)))) (cwV 3 hts (kt_inV kt_w176 kt_w305 kt_w174 kt_w175 kt_w3) rfl rfl rfl (by decide +kernel) ⟨Nat.le_of_ble_eq_true rfl, Nat.le_of_ble_eq_true rfl⟩) (kq_preV (kr_st E) (hC.1) (kq_recv hC.1.1 hOp14 rfl)) rfl rfl hl.1 rfl (lv_room (Nat.le_of_ble_eq_true rfl)) d_Cu_twice_293 ⟨Nat.zero_le _, Nat.zero_le _⟩) (fun u15 H15 L15 hq15 hL15 => ?_)
    obtain ⟨rfl, hX15⟩ := hq15
    refine W.eq (g2 := F0 m 296 ls []) rfl ?_
    obtain ⟨w15, f15, o15, hW15⟩ : ∃ w : Nat → Nat, w (hc + 6) = (w14 (hc + 6) + w14 (hc + 6)) % kP ∧ (∀ q, q ≠ hc + 6 → w q = w14 q) ∧ kr_W E w H15 := ⟨_, kq_up_at, fun q hq => kq_up_ne hq, hX15⟩
    have hlc15 := t_lL (free := kr_fr h hc) hlc14 (fun q z => by rw [hL15 q z]; unfold kr_fr; omega)
    have e15 : w15 (hc + 6) = (w3 (hc + 6) + w3 (hc + 6)) % kP := by rw [f15, o14 (hc + 6) (by omega) (by omega) (by omega), o13 (hc + 6) (by omega), o12 (hc + 6) (by omega), o11 (hc + 6) (by omega), o10 (hc + 6) (by omega) (by omega) (by omega), o9 (hc + 6) (by omega), o8 (hc + 6) (by omega), o7 (hc + 6) (by omega) (by omega) (by omega), o6 (hc + 6) (by omega), o5 (hc + 6) (by omega), o4 (hc + 6) (by omega) (by omega) (by omega)]
    have hOc15 := kr_obj hW15 hV.1 hV.2.1
    have hOp15 := kr_obj hW15 hP.1 hP.2.1
    refine lv_aload_n hx hb d_Cu_twice_296 rfl (lv_at hl 0 rfl) ?_
    refine kq_get hx hb hts kt_F_Cu hown hK hOc15 rfl 0 (by decide) kt_w99 rfl d_Cu_twice_297 ?_
    refine lv_aload_n hx hb d_Cu_twice_300 rfl (lv_at hl 0 rfl) ?_
    refine kq_get hx hb hts kt_F_Cu hown hK hOc15 rfl 6 (by decide) kt_w105 rfl d_Cu_twice_301 ?_
    refine lv_aload_n hx hb d_Cu_twice_304 rfl (lv_at hl 0 rfl) ?_
    refine kq_get hx hb hts kt_F_Cu hown hK hOc15 rfl 6 (by decide) kt_w105 rfl d_Cu_twice_305 ?_
    refine lv_aload_n hx hb d_Cu_twice_308 rfl (lv_at hl 0 rfl) ?_
    refine kq_get hx hb hts kt_F_Cu hown hK hOc15 rfl 6 (by decide) kt_w105 rfl d_Cu_twice_309 ?_
    refine kq_call (va_runV (As := [.ref (hc + 6), .ref (hc + 6), .ref (hc + 6)]) (rest := []) ⟨hx, hb, hml, hown, hts⟩ (c_Pr_product l E h pa ga gw kP G w15 H15 hE hP hW15 (hc + 6) (hc + 6) (hc + 6) (hV.2.2.1 6 (by decide) (by decide)) (Or.inl (hV.2.2.1 6 (by decide) (by decide))) (Or.inl (hV.2.2.1 6 (by decide) (by decide)))) (cwV 3 hts (kt_inV kt_w206 kt_w260 kt_w204 kt_w205 kt_w3) rfl rfl rfl (by decide +kernel) ⟨Nat.le_of_ble_eq_true rfl, Nat.le_of_ble_eq_true rfl⟩) (kq_preV (kr_st E) (hC.1) (kq_recv hC.1.1 hOp15 rfl)) rfl rfl hl.1 rfl (lv_room (Nat.le_of_ble_eq_true rfl)) d_Cu_twice_312 ⟨Nat.zero_le _, Nat.zero_le _⟩) (fun u16 H16 L16 hq16 hL16 => ?_)
    obtain ⟨rfl, w16, hW16, f16, o16⟩ := hq16
    refine W.eq (g2 := F0 m 315 ls []) rfl ?_
    have hlc16 := t_lL (free := kr_fr h hc) hlc15 (fun q z => by rcases hL16 q z with z | z | z <;> (rw [z]; unfold kr_fr; omega))
    have e16 : w16 (hc + 6) = w15 (hc + 6) * w15 (hc + 6) % kP := by rw [f16]
    have hOc16 := kr_obj hW16 hV.1 hV.2.1
    have hOp16 := kr_obj hW16 hP.1 hP.2.1
    refine lv_aload_n hx hb d_Cu_twice_315 rfl (lv_at hl 0 rfl) ?_
    refine kq_get hx hb hts kt_F_Cu hown hK hOc16 rfl 0 (by decide) kt_w99 rfl d_Cu_twice_316 ?_
    refine lv_aload_n hx hb d_Cu_twice_319 rfl (lv_at hl 0 rfl) ?_
    refine kq_get hx hb hts kt_F_Cu hown hK hOc16 rfl 6 (by decide) kt_w105 rfl d_Cu_twice_320 ?_
    refine lv_aload_n hx hb d_Cu_twice_323 rfl (lv_at hl 0 rfl) ?_
    refine kq_get hx hb hts kt_F_Cu hown hK hOc16 rfl 6 (by decide) kt_w105 rfl d_Cu_twice_324 ?_
    refine lv_aload_n hx hb d_Cu_twice_327 rfl (lv_at hl 0 rfl) ?_
    refine kq_get hx hb hts kt_F_Cu hown hK hOc16 rfl 6 (by decide) kt_w105 rfl d_Cu_twice_328 ?_
    refine kq_call (va_runV (As := [.ref (hc + 6), .ref (hc + 6), .ref (hc + 6)]) (rest := []) ⟨hx, hb, hml, hown, hts⟩ (c_Pr_sum l E h pa ga gw kP G w16 H16 hE hP hW16 (hc + 6) (hc + 6) (hc + 6) (hV.2.2.1 6 (by decide) (by decide)) (Or.inl (hV.2.2.1 6 (by decide) (by decide))) (Or.inl (hV.2.2.1 6 (by decide) (by decide)))) (cwV 3 hts (kt_inV kt_w176 kt_w305 kt_w174 kt_w175 kt_w3) rfl rfl rfl (by decide +kernel) ⟨Nat.le_of_ble_eq_true rfl, Nat.le_of_ble_eq_true rfl⟩) (kq_preV (kr_st E) (hC.1) (kq_recv hC.1.1 hOp16 rfl)) rfl rfl hl.1 rfl (lv_room (Nat.le_of_ble_eq_true rfl)) d_Cu_twice_331 ⟨Nat.zero_le _, Nat.zero_le _⟩) (fun u17 H17 L17 hq17 hL17 => ?_)
    obtain ⟨rfl, hX17⟩ := hq17
    refine W.eq (g2 := F0 m 334 ls []) rfl ?_
    obtain ⟨w17, f17, o17, hW17⟩ : ∃ w : Nat → Nat, w (hc + 6) = (w16 (hc + 6) + w16 (hc + 6)) % kP ∧ (∀ q, q ≠ hc + 6 → w q = w16 q) ∧ kr_W E w H17 := ⟨_, kq_up_at, fun q hq => kq_up_ne hq, hX17⟩
    have hlc17 := t_lL (free := kr_fr h hc) hlc16 (fun q z => by rw [hL17 q z]; unfold kr_fr; omega)
    have e17 : w17 (hc + 6) = (w16 (hc + 6) + w16 (hc + 6)) % kP := by rw [f17]
    have hOc17 := kr_obj hW17 hV.1 hV.2.1
    have hOp17 := kr_obj hW17 hP.1 hP.2.1
    refine lv_aload_n hx hb d_Cu_twice_334 rfl (lv_at hl 0 rfl) ?_
    refine kq_get hx hb hts kt_F_Cu hown hK hOc17 rfl 0 (by decide) kt_w99 rfl d_Cu_twice_335 ?_
    refine lv_aload_n hx hb d_Cu_twice_338 rfl (lv_at hl 0 rfl) ?_
    refine kq_get hx hb hts kt_F_Cu hown hK hOc17 rfl 2 (by decide) kt_w101 rfl d_Cu_twice_339 ?_
    refine lv_aload_n hx hb d_Cu_twice_342 rfl (lv_at hl 0 rfl) ?_
    refine kq_get hx hb hts kt_F_Cu hown hK hOc17 rfl 2 (by decide) kt_w101 rfl d_Cu_twice_343 ?_
    refine lv_aload_n hx hb d_Cu_twice_346 rfl (lv_at hl 0 rfl) ?_
    refine kq_get hx hb hts kt_F_Cu hown hK hOc17 rfl 6 (by decide) kt_w105 rfl d_Cu_twice_347 ?_
    refine kq_call (va_runV (As := [.ref (hc + 2), .ref (hc + 2), .ref (hc + 6)]) (rest := []) ⟨hx, hb, hml, hown, hts⟩ (c_Pr_difference l E h pa ga gw kP G w17 H17 hE hP hW17 (hc + 2) (hc + 2) (hc + 6) (hV.2.2.1 2 (by decide) (by decide)) (Or.inl (hV.2.2.1 2 (by decide) (by decide))) (Or.inl (hV.2.2.1 6 (by decide) (by decide)))) (cwV 3 hts (kt_inV kt_w198 kt_w268 kt_w196 kt_w197 kt_w3) rfl rfl rfl (by decide +kernel) ⟨Nat.le_of_ble_eq_true rfl, Nat.le_of_ble_eq_true rfl⟩) (kq_preV (kr_st E) (hC.1) (kq_recv hC.1.1 hOp17 rfl)) rfl rfl hl.1 rfl (lv_room (Nat.le_of_ble_eq_true rfl)) d_Cu_twice_350 ⟨Nat.zero_le _, Nat.zero_le _⟩) (fun u18 H18 L18 hq18 hL18 => ?_)
    obtain ⟨rfl, hX18⟩ := hq18
    refine W.eq (g2 := F0 m 353 ls []) rfl ?_
    obtain ⟨w18, f18, o18, hW18⟩ : ∃ w : Nat → Nat, w (hc + 2) = kp_dif kP (w17 (hc + 2)) (w17 (hc + 6)) ∧ (∀ q, q ≠ hc + 2 → w q = w17 q) ∧ kr_W E w H18 := ⟨_, kq_up_at, fun q hq => kq_up_ne hq, hX18⟩
    have hlc18 := t_lL (free := kr_fr h hc) hlc17 (fun q z => by rw [hL18 q z]; unfold kr_fr; omega)
    have e18 : w18 (hc + 2) = kp_dif kP (w14 (hc + 2)) (w17 (hc + 6)) := by rw [f18, o17 (hc + 2) (by omega), o16 (hc + 2) (by omega) (by omega) (by omega), o15 (hc + 2) (by omega)]
    have hOc18 := kr_obj hW18 hV.1 hV.2.1
    have hOp18 := kr_obj hW18 hP.1 hP.2.1
    have hrep2 := kc_rep_twice hrep hz e1 e2 e3 e4 e5 e6 e7 e8 e9 e10 e11 e12 e13 e14 e15 e16 e17 e18
    refine W.vret hx hb hret (fun t ht _ => ⟨_, rfl, rfl, w18, by rw [ht]; exact hW18, ?_, fun q hq => by
          have hq1 := hq
          unfold kr_fr at hq1
          rw [o18 q (by omega), o17 q (by omega), o16 q (by omega) (by omega) (by omega), o15 q (by omega), o14 q (by omega) (by omega) (by omega), o13 q (by omega), o12 q (by omega), o11 q (by omega), o10 q (by omega) (by omega) (by omega), o9 q (by omega), o8 q (by omega), o7 q (by omega) (by omega) (by omega), o6 q (by omega), o5 q (by omega), o4 q (by omega) (by omega) (by omega), o3 q (by omega) (by omega) (by omega), o2 q (by omega), o1 q (by omega) (by omega) (by omega)]⟩) hlc18 d_Cu_twice_353
    rw [o18 (hc + 1) (by omega), o17 (hc + 1) (by omega), o16 (hc + 1) (by omega) (by omega) (by omega), o15 (hc + 1) (by omega), o14 (hc + 1) (by omega) (by omega) (by omega), o13 (hc + 1) (by omega), o18 (hc + 3) (by omega), o17 (hc + 3) (by omega), o16 (hc + 3) (by omega) (by omega) (by omega), o15 (hc + 3) (by omega), o14 (hc + 3) (by omega) (by omega) (by omega), o13 (hc + 3) (by omega), o12 (hc + 3) (by omega), o11 (hc + 3) (by omega), o10 (hc + 3) (by omega) (by omega) (by omega), o9 (hc + 3) (by omega), o8 (hc + 3) (by omega), o7 (hc + 3) (by omega) (by omega) (by omega), o6 (hc + 3) (by omega), o5 (hc + 3) (by omega), o4 (hc + 3) (by omega) (by omega) (by omega), o3 (hc + 3) (by omega) (by omega) (by omega)]
    exact hrep2
  · have hz : v (hc + 3) = 0 := kq_z_ne.mp hcc
    have hn : kc_twice o = o := by
      cases o with
      | none => rfl
      | some q => exact absurd hz hrep.2.2.2.1
    refine W.vret hx hb hret (fun t ht _ => ⟨_, rfl, rfl, v, by rw [ht]; exact hW, by rw [hn]; exact hrep, fun _ _ => rfl⟩) hlc00 d_Cu_twice_10
