/-! The law: its calls (own rows). -/
abbrev kl_y : Cond := (Jvm.Cond.classLink "KeyCurveLaw" (7 : Nat) "KeyCurve")
/-- what stands still in the law -/
def kl_G (o mo b L : Nat) (A B : Nat → Nat) (xs : Nat → Int32) (cL cR cS cI cII cZ : ClassId) (D : va_G) (tys : List (ClassId × FieldType)) (tL tR tS tI tII tZ : Nat) (H0 : Heap) (s : State) : Prop :=
  s.heap.size = o ∧ mo = o + 45 ∧ L ≤ 2560 ∧ b < o ∧ va_K D kr_cl tys s ∧ kr_N s ∧ kl_zC o A H0 s ∧ kl_gC o A H0 s ∧ kl_zM o B H0 s ∧ kl_gM o B H0 s ∧ tys[tL]? = some (cL, .long) ∧ tys[tR]? = some (cR, .array .long) ∧ tys[tS]? = some (cS, .object "KeyCurve$Spot") ∧ tys[tI]? = some (cI, .int) ∧ tys[tII]? = some (cII, .array .int) ∧ tys[tZ]? = some (cZ, .boolean) ∧ va_X b L xs s H0
/-- what stands at the head of the law's loop -/
def kl_I (o mo : Nat) (A B : Nat → Nat) (cL cR cS cI cII cZ : ClassId) (D : va_G) (H0 H : Heap) (v w : Nat → Nat) (bs cs : Nat → Bool) (far : Bool) : Prop := H.size = o + 77 ∧ (∀ q, q < o → H[q]? = H0[q]?) ∧ kl_c o A cL cR cS D H0 H v bs ∧ kl_m mo B cI cII cZ D H0 H w far cs ∧ kl_R o mo v w bs cs
theorem kl_kr {b L : Nat} {xs : Nat → Int32} {U : State} {H : Heap} (h : va_X b L xs U H) : kq_r U .int H b L (fun j => .int (xs j)) := by
  obtain ⟨scr, h1, h2, h3, h4, h5⟩ := h
  exact ⟨scr, h1, h2, h3, Nat.le_of_eq h4.symm, h5⟩
section
variable {p : Program} {l : Launch} {e : Env} {R : Room} {s : State} {m : MethodId} {args : Array Value} {below : List Frame} {meth : Method} {c : Code} {H : Heap} {locs : List Loc} {cells slots : Nat} {Q : State → Prop}
variable {cc : ByteArray} {pc : Nat} {ls : Array Slot} {rest : List Value}
theorem kl_flag {x : Int32} {p7 p8 : Nat} {o1 o2 : Int} (hexec : p.tables.exec = Jvm.exec) (hb : c.code = cc) (d0 : decode cc pc = .ok (.ifCond .eq o1, 3)) (t0 : (pc : Int) + o1 = (p7 : Int)) (d1 : decode cc (pc + 3) = .ok (.iconst 1, 1)) (d2 : decode cc (pc + 4) = .ok (.goto o2, 3)) (t2 : ((pc + 4 : Nat) : Int) + o2 = (p8 : Int)) (d3 : decode cc p7 = .ok (.iconst 0, 1)) (h7 : p7 + 1 = p8)
    (kk : W p l e R s m args below meth c H locs cells slots Q (F0 m p8 ls (.int (kq_z (decide (¬ x = 0))) :: rest))) : W p l e R s m args below meth c H locs cells slots Q (F0 m pc ls (.int x :: rest)) := by
  subst h7
  refine lv_if_eq hexec hb d0 t0 (fun hx0 => ?_) (fun hx0 => ?_)
  · refine lv_iconst (v := nI 0) hexec hb d3 (by decide) ?_
    refine kq_ri (show nI 0 = kq_z (decide (¬ x = 0)) from by rw [decide_eq_false (fun z => z hx0)]; rfl) kk
  · refine lv_iconst (v := nI 1) hexec hb d1 (by decide) ?_
    refine kq_ri (show nI 1 = kq_z (decide (¬ x = 0)) from by rw [decide_eq_true hx0]; rfl) ?_
    exact lv_goto hexec hb d2 t2 kk
theorem kl_alen {b L : Nat} {xs : Nat → Int32} (hexec : p.tables.exec = Jvm.exec) (hb : c.code = cc) (hX : va_X b L xs s H) (hdg : decode cc pc = .ok (.arraylength, 1))
    (kk : W p l e R s m args below meth c H locs cells slots Q (F0 m (pc + 1) ls (.int (nI L) :: rest))) : W p l e R s m args below meth c H locs cells slots Q (F0 m pc ls (.ref b :: rest)) := by
  obtain ⟨scr, h1, h2, h3, h4, h5⟩ := hX
  exact W.alen (n := Int32.ofNat L) hexec hb h1 h2 (by rw [h4] <;> rfl) rfl rfl hdg kk
end
theorem kl_cmp {L i : Nat} (hL : L ≤ 2560) (hi : i ≤ 2600) : nI L - nI 5 < nI i ↔ L < i + 5 := by
  rw [Int32.lt_iff_toInt_lt, Int32.toInt_sub, nI_toInt (by omega), nI_toInt (by omega), nI_toInt (by omega)]
  unfold Int.bmod
  simp only []
  split <;> omega
theorem kl_and15 (x : Int32) : x &&& nI 15 = nI (x.toBitVec.toNat % 16) := pk_and x 4 rfl
theorem d_law_108 : decode code 108 = .ok (.aload_n 1, 1) := by decide +kernel
theorem d_law_109 : decode code 109 = .ok (.aload_n 0, 1) := by decide +kernel
theorem d_law_110 : decode code 110 = .ok (.iload_n 3, 1) := by decide +kernel
theorem d_law_111 : decode code 111 = .ok (.iconst 1, 1) := by decide +kernel
theorem d_law_112 : decode code 112 = .ok (.iadd, 1) := by decide +kernel
theorem d_law_113 : decode code 113 = .ok (.iaload, 1) := by decide +kernel
theorem d_law_114 : decode code 114 = .ok (.aload_n 0, 1) := by decide +kernel
theorem d_law_115 : decode code 115 = .ok (.iload_n 3, 1) := by decide +kernel
theorem d_law_116 : decode code 116 = .ok (.iconst 2, 1) := by decide +kernel
theorem d_law_117 : decode code 117 = .ok (.iadd, 1) := by decide +kernel
theorem d_law_118 : decode code 118 = .ok (.iaload, 1) := by decide +kernel
theorem d_law_119 : decode code 119 = .ok (.aload_n 0, 1) := by decide +kernel
theorem d_law_120 : decode code 120 = .ok (.iload_n 3, 1) := by decide +kernel
theorem d_law_121 : decode code 121 = .ok (.iconst 3, 1) := by decide +kernel
theorem d_law_122 : decode code 122 = .ok (.iadd, 1) := by decide +kernel
theorem d_law_123 : decode code 123 = .ok (.iaload, 1) := by decide +kernel
theorem d_law_124 : decode code 124 = .ok (.invokevirtual 13, 3) := by decide +kernel
theorem d_law_127 : decode code 127 = .ok (.aload_n 2, 1) := by decide +kernel
theorem d_law_128 : decode code 128 = .ok (.aload_n 0, 1) := by decide +kernel
theorem d_law_129 : decode code 129 = .ok (.iload_n 3, 1) := by decide +kernel
theorem d_law_130 : decode code 130 = .ok (.iconst 1, 1) := by decide +kernel
theorem d_law_131 : decode code 131 = .ok (.iadd, 1) := by decide +kernel
theorem d_law_132 : decode code 132 = .ok (.iaload, 1) := by decide +kernel
theorem d_law_133 : decode code 133 = .ok (.aload_n 0, 1) := by decide +kernel
theorem d_law_134 : decode code 134 = .ok (.iload_n 3, 1) := by decide +kernel
theorem d_law_135 : decode code 135 = .ok (.iconst 2, 1) := by decide +kernel
theorem d_law_136 : decode code 136 = .ok (.iadd, 1) := by decide +kernel
theorem d_law_137 : decode code 137 = .ok (.iaload, 1) := by decide +kernel
theorem d_law_138 : decode code 138 = .ok (.aload_n 0, 1) := by decide +kernel
theorem d_law_139 : decode code 139 = .ok (.iload_n 3, 1) := by decide +kernel
theorem d_law_140 : decode code 140 = .ok (.iconst 3, 1) := by decide +kernel
theorem d_law_141 : decode code 141 = .ok (.iadd, 1) := by decide +kernel
theorem d_law_142 : decode code 142 = .ok (.iaload, 1) := by decide +kernel
theorem d_law_143 : decode code 143 = .ok (.invokevirtual 17, 3) := by decide +kernel
theorem d_law_146 : decode code 146 = .ok (.if_icmp .eq 649, 3) := by decide +kernel
theorem d_law_149 : decode code 149 = .ok (.iconst 0, 1) := by decide +kernel
theorem d_law_150 : decode code 150 = .ok (.ireturn, 1) := by decide +kernel
section
variable {p : Program} {l : Launch} {e : Env} {s : State} {m : MethodId} {args : Array Value} {below : List Frame} {meth : Method} {c : Code} {Q : State → Prop}
set_option maxHeartbeats 4000000 in
set_option maxRecDepth 100000 in
theorem lc_set (hx : p.tables.exec = Jvm.exec) (hb : c.code = code) (hml : c.maxLocals = 4) (hown : s.vm.findClass "KeyCurveLaw" = some m.cls) (hts : ∀ w ∈ kl_y :: kt_all, w.before args s = true)
    {o mo b L : Nat} {A B : Nat → Nat} {xs : Nat → Int32} {cL cR cS cI cII cZ : ClassId} {D : va_G} {tys : List (ClassId × FieldType)} {tL tR tS tI tII tZ : Nat} {H0 : Heap} (hG : kl_G o mo b L A B xs cL cR cS cI cII cZ D tys tL tR tS tI tII tZ H0 s)
    {H : Heap} {v w : Nat → Nat} {bs cs : Nat → Bool} {far : Bool} {i : Nat} {ls : Array Slot} (hI : kl_I o mo A B cL cR cS cI cII cZ D H0 H v w bs cs far) (hi : i + 5 ≤ L) (hl : lv_has ls 4 [(3, .int (nI i)), (2, .ref mo), (1, .ref o), (0, .ref b)])
    (kk : ∀ (H : Heap) (v w : Nat → Nat) (bs cs : Nat → Bool) (far : Bool), kl_I o mo A B cL cR cS cI cII cZ D H0 H v w bs cs far → W p l e room_1 s m args below meth c H [] 77 611 Q (F0 m 795 ls [])) : W p l e room_1 s m args below meth c H [] 77 611 Q (F0 m 108 ls []) := by
  obtain ⟨hz, he, hc, hm, hR⟩ := hI
  obtain ⟨hso, hmo, hL, hbo, hK, hN, hZC, gC, hZM, gM, hL0, hR0, hS0, hI0, hII0, hZ0, hX⟩ := hG
  have hom : o ≤ mo := by omega
  have hS := kl_kr (hX.kept (he b hbo))
  refine lv_aload_n hx hb d_law_108 rfl (lv_at hl 2 rfl) ?_
  refine lv_aload_n hx hb d_law_109 rfl (lv_at hl 3 rfl) ?_
  refine lv_iload_n hx hb d_law_110 rfl (lv_at hl 0 rfl) ?_
  refine lv_iconst (v := nI 1) hx hb d_law_111 (by decide) ?_
  refine lv_iadd hx hb d_law_112 ?_
  refine kq_ri (show (nI i) + (nI 1) = nI (i + 1) from nI_add i 1) ?_
  refine kq_iald hx hb hS (show i + 1 < L by omega) (by omega) rfl d_law_113 ?_
  refine lv_aload_n hx hb d_law_114 rfl (lv_at hl 3 rfl) ?_
  refine lv_iload_n hx hb d_law_115 rfl (lv_at hl 0 rfl) ?_
  refine lv_iconst (v := nI 2) hx hb d_law_116 (by decide) ?_
  refine lv_iadd hx hb d_law_117 ?_
  refine kq_ri (show (nI i) + (nI 2) = nI (i + 2) from nI_add i 2) ?_
  refine kq_iald hx hb hS (show i + 2 < L by omega) (by omega) rfl d_law_118 ?_
  refine lv_aload_n hx hb d_law_119 rfl (lv_at hl 3 rfl) ?_
  refine lv_iload_n hx hb d_law_120 rfl (lv_at hl 0 rfl) ?_
  refine lv_iconst (v := nI 3) hx hb d_law_121 (by decide) ?_
  refine lv_iadd hx hb d_law_122 ?_
  refine kq_ri (show (nI i) + (nI 3) = nI (i + 3) from nI_add i 3) ?_
  refine kq_iald hx hb hS (show i + 3 < L by omega) (by omega) rfl d_law_123 ?_
  refine kq_call (va_runV (As := [.int (xs (i + 1)), .int (xs (i + 2)), .int (xs (i + 3))]) (rest := []) ⟨hx, hb, hml, hown, hts⟩ (c_Ke_set l (kl_C o A cL D tys H0 H) A o bs v H (kl_okC gC hL0) (kl_AC gC) (kl_OC gC hc) (kl_WC hc) (xs (i + 1)) (xs (i + 2)) (xs (i + 3))) (cwV 3 hts (kt_inV kt_w155 kt_w152 kt_w153 kt_w154 kt_w1) rfl rfl rfl (by decide +kernel) ⟨Nat.le_of_ble_eq_true rfl, Nat.le_of_ble_eq_true rfl⟩) (kq_p2V ((kr_K_s2 (kl_C o A cL D tys H0 H) A o)) (kl_KC hK hN hZC gC hL0 hR0 hS0 he hc) (kq_recv hK hc.1 rfl)) rfl rfl hl.1 rfl (lv_room (Nat.le_of_ble_eq_true rfl)) d_law_124 ⟨Nat.le_of_ble_eq_true rfl, Nat.le_of_ble_eq_true rfl⟩) (fun v9 H1 L1 hq1 hL1 => ?_)
  obtain ⟨rfl, hW1⟩ := hq1
  refine W.eq (g2 := F0 m 127 ls [.int (nI (kw_d (v (o + 2 + kx3 (xs (i + 1)))) (kx7 (xs (i + 2)))))]) rfl ?_
  refine va_forget (fun q hq => by
    have z := hL1 q hq
    have hh := kx_h_ge o (true)
    rw [z]
    omega) ?_
  have hc1 := hc.back hW1
  have off1 := kl_offC hW1
  have hm1 := hm.same (fun q q1 q2 => off1.2 q (Or.inr (by omega)))
  have he1 : ∀ q, q < o → H1[q]? = H0[q]? := fun q hq => (off1.2 q (Or.inl hq)).trans (he q hq)
  have hS1 := hS.other (H1 := H1) (off1.2 b (Or.inl hbo))
  have hS := hS1
  refine lv_aload_n hx hb d_law_127 rfl (lv_at hl 1 rfl) ?_
  refine lv_aload_n hx hb d_law_128 rfl (lv_at hl 3 rfl) ?_
  refine lv_iload_n hx hb d_law_129 rfl (lv_at hl 0 rfl) ?_
  refine lv_iconst (v := nI 1) hx hb d_law_130 (by decide) ?_
  refine lv_iadd hx hb d_law_131 ?_
  refine kq_ri (show (nI i) + (nI 1) = nI (i + 1) from nI_add i 1) ?_
  refine kq_iald hx hb hS (show i + 1 < L by omega) (by omega) rfl d_law_132 ?_
  refine lv_aload_n hx hb d_law_133 rfl (lv_at hl 3 rfl) ?_
  refine lv_iload_n hx hb d_law_134 rfl (lv_at hl 0 rfl) ?_
  refine lv_iconst (v := nI 2) hx hb d_law_135 (by decide) ?_
  refine lv_iadd hx hb d_law_136 ?_
  refine kq_ri (show (nI i) + (nI 2) = nI (i + 2) from nI_add i 2) ?_
  refine kq_iald hx hb hS (show i + 2 < L by omega) (by omega) rfl d_law_137 ?_
  refine lv_aload_n hx hb d_law_138 rfl (lv_at hl 3 rfl) ?_
  refine lv_iload_n hx hb d_law_139 rfl (lv_at hl 0 rfl) ?_
  refine lv_iconst (v := nI 3) hx hb d_law_140 (by decide) ?_
  refine lv_iadd hx hb d_law_141 ?_
  refine kq_ri (show (nI i) + (nI 3) = nI (i + 3) from nI_add i 3) ?_
  refine kq_iald hx hb hS (show i + 3 < L by omega) (by omega) rfl d_law_142 ?_
  refine kq_call (va_runV (As := [.int (xs (i + 1)), .int (xs (i + 2)), .int (xs (i + 3))]) (rest := [.int (nI (kw_d (v (o + 2 + kx3 (xs (i + 1)))) (kx7 (xs (i + 2)))))]) ⟨hx, hb, hml, hown, hts⟩ (c_Mo_set l (kl_M mo B cI D tys H0 H1) B mo far w H1 (kl_okM gM hom hI0) (kl_AM gM hom) (kl_FM (tys := tys) gM hom hm1).1 kl_GM (kl_WM hm1) (xs (i + 1)) (xs (i + 2)) (xs (i + 3))) (cwV 3 hts (kt_inV kt_w442 kt_w439 kt_w440 kt_w441 kt_w5) rfl rfl rfl (by decide +kernel) ⟨Nat.le_of_ble_eq_true rfl, Nat.le_of_ble_eq_true rfl⟩) (kq_preV ((ks_K_st (kl_M mo B cI D tys H0 H1) B mo)) ((kl_KM hK hZM gM hom hI0 hII0 hZ0 he1 hm1).1) (kq_recv hK hm1.1 rfl)) rfl rfl hl.1 rfl (lv_room (Nat.le_of_ble_eq_true rfl)) d_law_143 ⟨Nat.le_of_ble_eq_true rfl, Nat.le_of_ble_eq_true rfl⟩) (fun v9 H2 L2 hq2 hL2 => ?_)
  obtain ⟨rfl, hW2⟩ := hq2
  refine W.eq (g2 := F0 m 146 ls [.int (nI (kw_d (w (mo + 2 + kx3 (xs (i + 1)))) (kx7 (xs (i + 2))))), .int (nI (kw_d (v (o + 2 + kx3 (xs (i + 1)))) (kx7 (xs (i + 2)))))]) rfl ?_
  refine va_forget (fun q hq => by
    have z := hL2 q hq
    have hh := kx_h_ge o (true)
    rw [z]
    omega) ?_
  have hX2 := ks_X_self hW2 (kl_FM gM hom hm1)
  obtain ⟨hm2, z2, off2⟩ := hm1.back gM hom hX2
  have hc2 := hc1.same (fun q q1 q2 => off2 q (Or.inl (by omega)))
  have hz2 : H2.size = o + 77 := z2.trans (off1.1.trans hz)
  have he2 : ∀ q, q < o → H2[q]? = H0[q]? := fun q hq => (off2 q (Or.inl (by omega))).trans (he1 q hq)
  have hI2 : kl_I o mo A B cL cR cS cI cII cZ D H0 H2 _ _ _ _ _ := ⟨hz2, he2, hc2, hm2, hR.reg (kx3_lt (xs (i + 1))) (by rw [kq_up_at, kq_up_at, (hR _ (kx3_lt (xs (i + 1)))).1]) (fun q q1 _ _ => kq_up_ne q1) (fun q q1 _ _ => kq_up_ne q1)⟩
  have hans : nI (kw_d (v (o + 2 + kx3 (xs (i + 1)))) (kx7 (xs (i + 2)))) = nI (kw_d (w (mo + 2 + kx3 (xs (i + 1)))) (kx7 (xs (i + 2)))) := by rw [(hR _ (kx3_lt (xs (i + 1)))).1]
  refine lv_icmp_eq hx hb d_law_146 rfl (fun hq => ?_) (fun hq => ?_)
  · exact kk _ _ _ _ _ _ hI2
  · exact absurd hans hq
end
theorem d_law_151 : decode code 151 = .ok (.aload_n 1, 1) := by decide +kernel
theorem d_law_152 : decode code 152 = .ok (.aload_n 0, 1) := by decide +kernel
theorem d_law_153 : decode code 153 = .ok (.iload_n 3, 1) := by decide +kernel
theorem d_law_154 : decode code 154 = .ok (.iconst 1, 1) := by decide +kernel
theorem d_law_155 : decode code 155 = .ok (.iadd, 1) := by decide +kernel
theorem d_law_156 : decode code 156 = .ok (.iaload, 1) := by decide +kernel
theorem d_law_157 : decode code 157 = .ok (.aload_n 0, 1) := by decide +kernel
theorem d_law_158 : decode code 158 = .ok (.iload_n 3, 1) := by decide +kernel
theorem d_law_159 : decode code 159 = .ok (.iconst 2, 1) := by decide +kernel
theorem d_law_160 : decode code 160 = .ok (.iadd, 1) := by decide +kernel
theorem d_law_161 : decode code 161 = .ok (.iaload, 1) := by decide +kernel
theorem d_law_162 : decode code 162 = .ok (.invokevirtual 18, 3) := by decide +kernel
theorem d_law_165 : decode code 165 = .ok (.aload_n 2, 1) := by decide +kernel
theorem d_law_166 : decode code 166 = .ok (.aload_n 0, 1) := by decide +kernel
theorem d_law_167 : decode code 167 = .ok (.iload_n 3, 1) := by decide +kernel
theorem d_law_168 : decode code 168 = .ok (.iconst 1, 1) := by decide +kernel
theorem d_law_169 : decode code 169 = .ok (.iadd, 1) := by decide +kernel
theorem d_law_170 : decode code 170 = .ok (.iaload, 1) := by decide +kernel
theorem d_law_171 : decode code 171 = .ok (.aload_n 0, 1) := by decide +kernel
theorem d_law_172 : decode code 172 = .ok (.iload_n 3, 1) := by decide +kernel
theorem d_law_173 : decode code 173 = .ok (.iconst 2, 1) := by decide +kernel
theorem d_law_174 : decode code 174 = .ok (.iadd, 1) := by decide +kernel
theorem d_law_175 : decode code 175 = .ok (.iaload, 1) := by decide +kernel
theorem d_law_176 : decode code 176 = .ok (.invokevirtual 22, 3) := by decide +kernel
theorem d_law_179 : decode code 179 = .ok (.if_icmp .eq 616, 3) := by decide +kernel
theorem d_law_182 : decode code 182 = .ok (.iconst 0, 1) := by decide +kernel
theorem d_law_183 : decode code 183 = .ok (.ireturn, 1) := by decide +kernel
section
variable {p : Program} {l : Launch} {e : Env} {s : State} {m : MethodId} {args : Array Value} {below : List Frame} {meth : Method} {c : Code} {Q : State → Prop}
set_option maxHeartbeats 4000000 in
set_option maxRecDepth 100000 in
theorem lc_get (hx : p.tables.exec = Jvm.exec) (hb : c.code = code) (hml : c.maxLocals = 4) (hown : s.vm.findClass "KeyCurveLaw" = some m.cls) (hts : ∀ w ∈ kl_y :: kt_all, w.before args s = true)
    {o mo b L : Nat} {A B : Nat → Nat} {xs : Nat → Int32} {cL cR cS cI cII cZ : ClassId} {D : va_G} {tys : List (ClassId × FieldType)} {tL tR tS tI tII tZ : Nat} {H0 : Heap} (hG : kl_G o mo b L A B xs cL cR cS cI cII cZ D tys tL tR tS tI tII tZ H0 s)
    {H : Heap} {v w : Nat → Nat} {bs cs : Nat → Bool} {far : Bool} {i : Nat} {ls : Array Slot} (hI : kl_I o mo A B cL cR cS cI cII cZ D H0 H v w bs cs far) (hi : i + 5 ≤ L) (hl : lv_has ls 4 [(3, .int (nI i)), (2, .ref mo), (1, .ref o), (0, .ref b)])
    (kk : ∀ (H : Heap) (v w : Nat → Nat) (bs cs : Nat → Bool) (far : Bool), kl_I o mo A B cL cR cS cI cII cZ D H0 H v w bs cs far → W p l e room_1 s m args below meth c H [] 77 611 Q (F0 m 795 ls [])) : W p l e room_1 s m args below meth c H [] 77 611 Q (F0 m 151 ls []) := by
  obtain ⟨hz, he, hc, hm, hR⟩ := hI
  obtain ⟨hso, hmo, hL, hbo, hK, hN, hZC, gC, hZM, gM, hL0, hR0, hS0, hI0, hII0, hZ0, hX⟩ := hG
  have hom : o ≤ mo := by omega
  have hS := kl_kr (hX.kept (he b hbo))
  refine lv_aload_n hx hb d_law_151 rfl (lv_at hl 2 rfl) ?_
  refine lv_aload_n hx hb d_law_152 rfl (lv_at hl 3 rfl) ?_
  refine lv_iload_n hx hb d_law_153 rfl (lv_at hl 0 rfl) ?_
  refine lv_iconst (v := nI 1) hx hb d_law_154 (by decide) ?_
  refine lv_iadd hx hb d_law_155 ?_
  refine kq_ri (show (nI i) + (nI 1) = nI (i + 1) from nI_add i 1) ?_
  refine kq_iald hx hb hS (show i + 1 < L by omega) (by omega) rfl d_law_156 ?_
  refine lv_aload_n hx hb d_law_157 rfl (lv_at hl 3 rfl) ?_
  refine lv_iload_n hx hb d_law_158 rfl (lv_at hl 0 rfl) ?_
  refine lv_iconst (v := nI 2) hx hb d_law_159 (by decide) ?_
  refine lv_iadd hx hb d_law_160 ?_
  refine kq_ri (show (nI i) + (nI 2) = nI (i + 2) from nI_add i 2) ?_
  refine kq_iald hx hb hS (show i + 2 < L by omega) (by omega) rfl d_law_161 ?_
  refine kq_call (va_runV (As := [.int (xs (i + 1)), .int (xs (i + 2))]) (rest := []) ⟨hx, hb, hml, hown, hts⟩ (c_Ke_get l (kl_C o A cL D tys H0 H) A o bs v H (kl_okC gC hL0) (kl_AC gC) (kl_OC gC hc) (kl_WC hc) (xs (i + 1)) (xs (i + 2))) (cwV 2 hts (kt_inV kt_w164 kt_w161 kt_w162 kt_w163 kt_w1) rfl rfl rfl (by decide +kernel) ⟨Nat.le_of_ble_eq_true rfl, Nat.le_of_ble_eq_true rfl⟩) (kq_p2V ((kr_K_s2 (kl_C o A cL D tys H0 H) A o)) (kl_KC hK hN hZC gC hL0 hR0 hS0 he hc) (kq_recv hK hc.1 rfl)) rfl rfl hl.1 rfl (lv_room (Nat.le_of_ble_eq_true rfl)) d_law_162 ⟨Nat.le_of_ble_eq_true rfl, Nat.le_of_ble_eq_true rfl⟩) (fun v9 H1 L1 hq1 hL1 => ?_)
  obtain ⟨rfl, hW1⟩ := hq1
  refine W.eq (g2 := F0 m 165 ls [.int (nI (kw_d (v (o + 2 + kx3 (xs (i + 1)))) (kx7 (xs (i + 2)))))]) rfl ?_
  refine va_forget (fun q hq => (hL1 q hq).elim) ?_
  have hc1 := hc.back hW1
  have off1 := kl_offC hW1
  have hm1 := hm.same (fun q q1 q2 => off1.2 q (Or.inr (by omega)))
  have he1 : ∀ q, q < o → H1[q]? = H0[q]? := fun q hq => (off1.2 q (Or.inl hq)).trans (he q hq)
  have hS1 := hS.other (H1 := H1) (off1.2 b (Or.inl hbo))
  have hS := hS1
  refine lv_aload_n hx hb d_law_165 rfl (lv_at hl 1 rfl) ?_
  refine lv_aload_n hx hb d_law_166 rfl (lv_at hl 3 rfl) ?_
  refine lv_iload_n hx hb d_law_167 rfl (lv_at hl 0 rfl) ?_
  refine lv_iconst (v := nI 1) hx hb d_law_168 (by decide) ?_
  refine lv_iadd hx hb d_law_169 ?_
  refine kq_ri (show (nI i) + (nI 1) = nI (i + 1) from nI_add i 1) ?_
  refine kq_iald hx hb hS (show i + 1 < L by omega) (by omega) rfl d_law_170 ?_
  refine lv_aload_n hx hb d_law_171 rfl (lv_at hl 3 rfl) ?_
  refine lv_iload_n hx hb d_law_172 rfl (lv_at hl 0 rfl) ?_
  refine lv_iconst (v := nI 2) hx hb d_law_173 (by decide) ?_
  refine lv_iadd hx hb d_law_174 ?_
  refine kq_ri (show (nI i) + (nI 2) = nI (i + 2) from nI_add i 2) ?_
  refine kq_iald hx hb hS (show i + 2 < L by omega) (by omega) rfl d_law_175 ?_
  refine kq_call (va_runV (As := [.int (xs (i + 1)), .int (xs (i + 2))]) (rest := [.int (nI (kw_d (v (o + 2 + kx3 (xs (i + 1)))) (kx7 (xs (i + 2)))))]) ⟨hx, hb, hml, hown, hts⟩ (c_Mo_get l (kl_M mo B cI D tys H0 H1) B mo far w H1 (kl_okM gM hom hI0) (kl_AM gM hom) (kl_FM (tys := tys) gM hom hm1).1 kl_GM (kl_WM hm1) (xs (i + 1)) (xs (i + 2))) (cwV 2 hts (kt_inV kt_w446 kt_w443 kt_w444 kt_w445 kt_w5) rfl rfl rfl (by decide +kernel) ⟨Nat.le_of_ble_eq_true rfl, Nat.le_of_ble_eq_true rfl⟩) (kq_preV ((ks_K_st (kl_M mo B cI D tys H0 H1) B mo)) ((kl_KM hK hZM gM hom hI0 hII0 hZ0 he1 hm1).1) (kq_recv hK hm1.1 rfl)) rfl rfl hl.1 rfl (lv_room (Nat.le_of_ble_eq_true rfl)) d_law_176 ⟨Nat.le_of_ble_eq_true rfl, Nat.le_of_ble_eq_true rfl⟩) (fun v9 H2 L2 hq2 hL2 => ?_)
  obtain ⟨rfl, hW2⟩ := hq2
  refine W.eq (g2 := F0 m 179 ls [.int (nI (kw_d (w (mo + 2 + kx3 (xs (i + 1)))) (kx7 (xs (i + 2))))), .int (nI (kw_d (v (o + 2 + kx3 (xs (i + 1)))) (kx7 (xs (i + 2)))))]) rfl ?_
  refine va_forget (fun q hq => (hL2 q hq).elim) ?_
  have hX2 := ks_X_self hW2 (kl_FM gM hom hm1)
  obtain ⟨hm2, z2, off2⟩ := hm1.back gM hom hX2
  have hc2 := hc1.same (fun q q1 q2 => off2 q (Or.inl (by omega)))
  have hz2 : H2.size = o + 77 := z2.trans (off1.1.trans hz)
  have he2 : ∀ q, q < o → H2[q]? = H0[q]? := fun q hq => (off2 q (Or.inl (by omega))).trans (he1 q hq)
  have hI2 : kl_I o mo A B cL cR cS cI cII cZ D H0 H2 _ _ _ _ _ := ⟨hz2, he2, hc2, hm2, hR⟩
  have hans : nI (kw_d (v (o + 2 + kx3 (xs (i + 1)))) (kx7 (xs (i + 2)))) = nI (kw_d (w (mo + 2 + kx3 (xs (i + 1)))) (kx7 (xs (i + 2)))) := by rw [(hR _ (kx3_lt (xs (i + 1)))).1]
  refine lv_icmp_eq hx hb d_law_179 rfl (fun hq => ?_) (fun hq => ?_)
  · exact kk _ _ _ _ _ _ hI2
  · exact absurd hans hq
end
theorem d_law_184 : decode code 184 = .ok (.aload_n 1, 1) := by decide +kernel
theorem d_law_185 : decode code 185 = .ok (.aload_n 0, 1) := by decide +kernel
theorem d_law_186 : decode code 186 = .ok (.iload_n 3, 1) := by decide +kernel
theorem d_law_187 : decode code 187 = .ok (.iconst 1, 1) := by decide +kernel
theorem d_law_188 : decode code 188 = .ok (.iadd, 1) := by decide +kernel
theorem d_law_189 : decode code 189 = .ok (.iaload, 1) := by decide +kernel
theorem d_law_190 : decode code 190 = .ok (.aload_n 0, 1) := by decide +kernel
theorem d_law_191 : decode code 191 = .ok (.iload_n 3, 1) := by decide +kernel
theorem d_law_192 : decode code 192 = .ok (.iconst 2, 1) := by decide +kernel
theorem d_law_193 : decode code 193 = .ok (.iadd, 1) := by decide +kernel
theorem d_law_194 : decode code 194 = .ok (.iaload, 1) := by decide +kernel
theorem d_law_195 : decode code 195 = .ok (.aload_n 0, 1) := by decide +kernel
theorem d_law_196 : decode code 196 = .ok (.iload_n 3, 1) := by decide +kernel
theorem d_law_197 : decode code 197 = .ok (.iconst 3, 1) := by decide +kernel
theorem d_law_198 : decode code 198 = .ok (.iadd, 1) := by decide +kernel
theorem d_law_199 : decode code 199 = .ok (.iaload, 1) := by decide +kernel
theorem d_law_200 : decode code 200 = .ok (.aload_n 0, 1) := by decide +kernel
theorem d_law_201 : decode code 201 = .ok (.iload_n 3, 1) := by decide +kernel
theorem d_law_202 : decode code 202 = .ok (.iconst 4, 1) := by decide +kernel
theorem d_law_203 : decode code 203 = .ok (.iadd, 1) := by decide +kernel
theorem d_law_204 : decode code 204 = .ok (.iaload, 1) := by decide +kernel
theorem d_law_205 : decode code 205 = .ok (.ifCond .eq 7, 3) := by decide +kernel
theorem d_law_208 : decode code 208 = .ok (.iconst 1, 1) := by decide +kernel
theorem d_law_209 : decode code 209 = .ok (.goto 4, 3) := by decide +kernel
theorem d_law_212 : decode code 212 = .ok (.iconst 0, 1) := by decide +kernel
theorem d_law_213 : decode code 213 = .ok (.invokevirtual 23, 3) := by decide +kernel
theorem d_law_216 : decode code 216 = .ok (.aload_n 2, 1) := by decide +kernel
theorem d_law_217 : decode code 217 = .ok (.aload_n 0, 1) := by decide +kernel
theorem d_law_218 : decode code 218 = .ok (.iload_n 3, 1) := by decide +kernel
theorem d_law_219 : decode code 219 = .ok (.iconst 1, 1) := by decide +kernel
theorem d_law_220 : decode code 220 = .ok (.iadd, 1) := by decide +kernel
theorem d_law_221 : decode code 221 = .ok (.iaload, 1) := by decide +kernel
theorem d_law_222 : decode code 222 = .ok (.aload_n 0, 1) := by decide +kernel
theorem d_law_223 : decode code 223 = .ok (.iload_n 3, 1) := by decide +kernel
theorem d_law_224 : decode code 224 = .ok (.iconst 2, 1) := by decide +kernel
theorem d_law_225 : decode code 225 = .ok (.iadd, 1) := by decide +kernel
theorem d_law_226 : decode code 226 = .ok (.iaload, 1) := by decide +kernel
theorem d_law_227 : decode code 227 = .ok (.aload_n 0, 1) := by decide +kernel
theorem d_law_228 : decode code 228 = .ok (.iload_n 3, 1) := by decide +kernel
theorem d_law_229 : decode code 229 = .ok (.iconst 3, 1) := by decide +kernel
theorem d_law_230 : decode code 230 = .ok (.iadd, 1) := by decide +kernel
theorem d_law_231 : decode code 231 = .ok (.iaload, 1) := by decide +kernel
theorem d_law_232 : decode code 232 = .ok (.aload_n 0, 1) := by decide +kernel
theorem d_law_233 : decode code 233 = .ok (.iload_n 3, 1) := by decide +kernel
theorem d_law_234 : decode code 234 = .ok (.iconst 4, 1) := by decide +kernel
theorem d_law_235 : decode code 235 = .ok (.iadd, 1) := by decide +kernel
theorem d_law_236 : decode code 236 = .ok (.iaload, 1) := by decide +kernel
theorem d_law_237 : decode code 237 = .ok (.ifCond .eq 7, 3) := by decide +kernel
theorem d_law_240 : decode code 240 = .ok (.iconst 1, 1) := by decide +kernel
theorem d_law_241 : decode code 241 = .ok (.goto 4, 3) := by decide +kernel
theorem d_law_244 : decode code 244 = .ok (.iconst 0, 1) := by decide +kernel
theorem d_law_245 : decode code 245 = .ok (.invokevirtual 27, 3) := by decide +kernel
theorem d_law_248 : decode code 248 = .ok (.goto 547, 3) := by decide +kernel
section
variable {p : Program} {l : Launch} {e : Env} {s : State} {m : MethodId} {args : Array Value} {below : List Frame} {meth : Method} {c : Code} {Q : State → Prop}
set_option maxHeartbeats 4000000 in
set_option maxRecDepth 100000 in
theorem lc_add (hx : p.tables.exec = Jvm.exec) (hb : c.code = code) (hml : c.maxLocals = 4) (hown : s.vm.findClass "KeyCurveLaw" = some m.cls) (hts : ∀ w ∈ kl_y :: kt_all, w.before args s = true)
    {o mo b L : Nat} {A B : Nat → Nat} {xs : Nat → Int32} {cL cR cS cI cII cZ : ClassId} {D : va_G} {tys : List (ClassId × FieldType)} {tL tR tS tI tII tZ : Nat} {H0 : Heap} (hG : kl_G o mo b L A B xs cL cR cS cI cII cZ D tys tL tR tS tI tII tZ H0 s)
    {H : Heap} {v w : Nat → Nat} {bs cs : Nat → Bool} {far : Bool} {i : Nat} {ls : Array Slot} (hI : kl_I o mo A B cL cR cS cI cII cZ D H0 H v w bs cs far) (hi : i + 5 ≤ L) (hl : lv_has ls 4 [(3, .int (nI i)), (2, .ref mo), (1, .ref o), (0, .ref b)])
    (kk : ∀ (H : Heap) (v w : Nat → Nat) (bs cs : Nat → Bool) (far : Bool), kl_I o mo A B cL cR cS cI cII cZ D H0 H v w bs cs far → W p l e room_1 s m args below meth c H [] 77 611 Q (F0 m 795 ls [])) : W p l e room_1 s m args below meth c H [] 77 611 Q (F0 m 184 ls []) := by
  obtain ⟨hz, he, hc, hm, hR⟩ := hI
  obtain ⟨hso, hmo, hL, hbo, hK, hN, hZC, gC, hZM, gM, hL0, hR0, hS0, hI0, hII0, hZ0, hX⟩ := hG
  have hom : o ≤ mo := by omega
  have hS := kl_kr (hX.kept (he b hbo))
  refine lv_aload_n hx hb d_law_184 rfl (lv_at hl 2 rfl) ?_
  refine lv_aload_n hx hb d_law_185 rfl (lv_at hl 3 rfl) ?_
  refine lv_iload_n hx hb d_law_186 rfl (lv_at hl 0 rfl) ?_
  refine lv_iconst (v := nI 1) hx hb d_law_187 (by decide) ?_
  refine lv_iadd hx hb d_law_188 ?_
  refine kq_ri (show (nI i) + (nI 1) = nI (i + 1) from nI_add i 1) ?_
  refine kq_iald hx hb hS (show i + 1 < L by omega) (by omega) rfl d_law_189 ?_
  refine lv_aload_n hx hb d_law_190 rfl (lv_at hl 3 rfl) ?_
  refine lv_iload_n hx hb d_law_191 rfl (lv_at hl 0 rfl) ?_
  refine lv_iconst (v := nI 2) hx hb d_law_192 (by decide) ?_
  refine lv_iadd hx hb d_law_193 ?_
  refine kq_ri (show (nI i) + (nI 2) = nI (i + 2) from nI_add i 2) ?_
  refine kq_iald hx hb hS (show i + 2 < L by omega) (by omega) rfl d_law_194 ?_
  refine lv_aload_n hx hb d_law_195 rfl (lv_at hl 3 rfl) ?_
  refine lv_iload_n hx hb d_law_196 rfl (lv_at hl 0 rfl) ?_
  refine lv_iconst (v := nI 3) hx hb d_law_197 (by decide) ?_
  refine lv_iadd hx hb d_law_198 ?_
  refine kq_ri (show (nI i) + (nI 3) = nI (i + 3) from nI_add i 3) ?_
  refine kq_iald hx hb hS (show i + 3 < L by omega) (by omega) rfl d_law_199 ?_
  refine lv_aload_n hx hb d_law_200 rfl (lv_at hl 3 rfl) ?_
  refine lv_iload_n hx hb d_law_201 rfl (lv_at hl 0 rfl) ?_
  refine lv_iconst (v := nI 4) hx hb d_law_202 (by decide) ?_
  refine lv_iadd hx hb d_law_203 ?_
  refine kq_ri (show (nI i) + (nI 4) = nI (i + 4) from nI_add i 4) ?_
  refine kq_iald hx hb hS (show i + 4 < L by omega) (by omega) rfl d_law_204 ?_
  refine kl_flag hx hb d_law_205 rfl d_law_208 d_law_209 rfl d_law_212 rfl ?_
  refine kq_call (va_runV (As := [.int (xs (i + 1)), .int (xs (i + 2)), .int (xs (i + 3)), .int (kq_z (decide (¬ xs (i + 4) = 0)))]) (rest := []) ⟨hx, hb, hml, hown, hts⟩ (c_Ke_add l (kl_C o A cL D tys H0 H) A o bs v H (kl_okC gC hL0) (kl_AC gC) (kl_OC gC hc) (kl_WC hc) (xs (i + 1)) (xs (i + 2)) (xs (i + 3)) (decide (¬ xs (i + 4) = 0))) (cwV 4 hts (kt_inV kt_w168 kt_w165 kt_w166 kt_w167 kt_w1) rfl rfl rfl (by decide +kernel) ⟨Nat.le_of_ble_eq_true rfl, Nat.le_of_ble_eq_true rfl⟩) (kq_p2V ((kr_K_s2 (kl_C o A cL D tys H0 H) A o)) (kl_KC hK hN hZC gC hL0 hR0 hS0 he hc) (kq_recv hK hc.1 rfl)) rfl rfl hl.1 rfl (lv_room (Nat.le_of_ble_eq_true rfl)) d_law_213 ⟨Nat.le_of_ble_eq_true rfl, Nat.le_of_ble_eq_true rfl⟩) (fun v9 H1 L1 hq1 hL1 => ?_)
  obtain ⟨rfl, v1, hW1, e1, k1⟩ := hq1
  refine W.eq (g2 := F0 m 216 ls []) rfl ?_
  refine va_forget (fun q hq => by
    have z := hL1 q hq
    have hh := kx_h_ge o ((decide (¬ xs (i + 4) = 0)))
    rcases z with z | z | z
    · rw [z]
      omega
    · rw [z]
      omega
    · rw [z]
      omega) ?_
  have hc1 := hc.back hW1
  have off1 := kl_offC hW1
  have hm1 := hm.same (fun q q1 q2 => off1.2 q (Or.inr (by omega)))
  have he1 : ∀ q, q < o → H1[q]? = H0[q]? := fun q hq => (off1.2 q (Or.inl hq)).trans (he q hq)
  have hS1 := hS.other (H1 := H1) (off1.2 b (Or.inl hbo))
  have hS := hS1
  refine lv_aload_n hx hb d_law_216 rfl (lv_at hl 1 rfl) ?_
  refine lv_aload_n hx hb d_law_217 rfl (lv_at hl 3 rfl) ?_
  refine lv_iload_n hx hb d_law_218 rfl (lv_at hl 0 rfl) ?_
  refine lv_iconst (v := nI 1) hx hb d_law_219 (by decide) ?_
  refine lv_iadd hx hb d_law_220 ?_
  refine kq_ri (show (nI i) + (nI 1) = nI (i + 1) from nI_add i 1) ?_
  refine kq_iald hx hb hS (show i + 1 < L by omega) (by omega) rfl d_law_221 ?_
  refine lv_aload_n hx hb d_law_222 rfl (lv_at hl 3 rfl) ?_
  refine lv_iload_n hx hb d_law_223 rfl (lv_at hl 0 rfl) ?_
  refine lv_iconst (v := nI 2) hx hb d_law_224 (by decide) ?_
  refine lv_iadd hx hb d_law_225 ?_
  refine kq_ri (show (nI i) + (nI 2) = nI (i + 2) from nI_add i 2) ?_
  refine kq_iald hx hb hS (show i + 2 < L by omega) (by omega) rfl d_law_226 ?_
  refine lv_aload_n hx hb d_law_227 rfl (lv_at hl 3 rfl) ?_
  refine lv_iload_n hx hb d_law_228 rfl (lv_at hl 0 rfl) ?_
  refine lv_iconst (v := nI 3) hx hb d_law_229 (by decide) ?_
  refine lv_iadd hx hb d_law_230 ?_
  refine kq_ri (show (nI i) + (nI 3) = nI (i + 3) from nI_add i 3) ?_
  refine kq_iald hx hb hS (show i + 3 < L by omega) (by omega) rfl d_law_231 ?_
  refine lv_aload_n hx hb d_law_232 rfl (lv_at hl 3 rfl) ?_
  refine lv_iload_n hx hb d_law_233 rfl (lv_at hl 0 rfl) ?_
  refine lv_iconst (v := nI 4) hx hb d_law_234 (by decide) ?_
  refine lv_iadd hx hb d_law_235 ?_
  refine kq_ri (show (nI i) + (nI 4) = nI (i + 4) from nI_add i 4) ?_
  refine kq_iald hx hb hS (show i + 4 < L by omega) (by omega) rfl d_law_236 ?_
  refine kl_flag hx hb d_law_237 rfl d_law_240 d_law_241 rfl d_law_244 rfl ?_
  refine kq_call (va_runV (As := [.int (xs (i + 1)), .int (xs (i + 2)), .int (xs (i + 3)), .int (kq_z (decide (¬ xs (i + 4) = 0)))]) (rest := []) ⟨hx, hb, hml, hown, hts⟩ (c_Mo_add_0 l (kl_M mo B cI D tys H0 H1) B mo far w H1 (kl_okM gM hom hI0) (kl_AM gM hom) (kl_FM (tys := tys) gM hom hm1).1 kl_GM (kl_WM hm1) (xs (i + 1)) (xs (i + 2)) (xs (i + 3)) (decide (¬ xs (i + 4) = 0))) (cwV 4 hts (kt_inV kt_w450 kt_w447 kt_w448 kt_w449 kt_w5) rfl rfl rfl (by decide +kernel) ⟨Nat.le_of_ble_eq_true rfl, Nat.le_of_ble_eq_true rfl⟩) (kq_preV ((ks_K_st (kl_M mo B cI D tys H0 H1) B mo)) ((kl_KM hK hZM gM hom hI0 hII0 hZ0 he1 hm1).1) (kq_recv hK hm1.1 rfl)) rfl rfl hl.1 rfl (lv_room (Nat.le_of_ble_eq_true rfl)) d_law_245 ⟨Nat.le_of_ble_eq_true rfl, Nat.le_of_ble_eq_true rfl⟩) (fun v9 H2 L2 hq2 hL2 => ?_)
  obtain ⟨rfl, w2, hW2, e2, k2⟩ := hq2
  refine W.eq (g2 := F0 m 248 ls []) rfl ?_
  refine va_forget (fun q hq => by
    have z := hL2 q hq
    have hh := kx_h_ge o ((decide (¬ xs (i + 4) = 0)))
    rcases z with z | z
    · rw [z]
      omega
    · unfold ks_fr at z
      omega) ?_
  have hX2 := ks_X_self hW2 (kl_FM gM hom hm1)
  obtain ⟨hm2, z2, off2⟩ := hm1.back gM hom hX2
  have hc2 := hc1.same (fun q q1 q2 => off2 q (Or.inl (by omega)))
  have hz2 : H2.size = o + 77 := z2.trans (off1.1.trans hz)
  have he2 : ∀ q, q < o → H2[q]? = H0[q]? := fun q hq => (off2 q (Or.inl (by omega))).trans (he1 q hq)
  have hI2 : kl_I o mo A B cL cR cS cI cII cZ D H0 H2 _ _ _ _ _ := ⟨hz2, he2, hc2, hm2, hR.reg (kx3_lt (xs (i + 1))) (by rw [e1, e2, (hR _ (kx3_lt (xs (i + 2)))).1, (hR _ (kx3_lt (xs (i + 3)))).1]) (fun q q1 q2 q3 => k1 q q1 (by have := kx_h_ge o ((decide (¬ xs (i + 4) = 0))); omega) (by have := kx_h_ge o ((decide (¬ xs (i + 4) = 0))); omega)) (fun q q1 q2 q3 => k2 q q1 (by unfold ks_fr; omega))⟩
  refine lv_goto hx hb d_law_248 rfl ?_
  exact kk _ _ _ _ _ _ hI2
end
theorem d_law_251 : decode code 251 = .ok (.aload_n 1, 1) := by decide +kernel
theorem d_law_252 : decode code 252 = .ok (.aload_n 0, 1) := by decide +kernel
theorem d_law_253 : decode code 253 = .ok (.iload_n 3, 1) := by decide +kernel
theorem d_law_254 : decode code 254 = .ok (.iconst 1, 1) := by decide +kernel
theorem d_law_255 : decode code 255 = .ok (.iadd, 1) := by decide +kernel
theorem d_law_256 : decode code 256 = .ok (.iaload, 1) := by decide +kernel
theorem d_law_257 : decode code 257 = .ok (.aload_n 0, 1) := by decide +kernel
theorem d_law_258 : decode code 258 = .ok (.iload_n 3, 1) := by decide +kernel
theorem d_law_259 : decode code 259 = .ok (.iconst 2, 1) := by decide +kernel
theorem d_law_260 : decode code 260 = .ok (.iadd, 1) := by decide +kernel
theorem d_law_261 : decode code 261 = .ok (.iaload, 1) := by decide +kernel
theorem d_law_262 : decode code 262 = .ok (.aload_n 0, 1) := by decide +kernel
theorem d_law_263 : decode code 263 = .ok (.iload_n 3, 1) := by decide +kernel
theorem d_law_264 : decode code 264 = .ok (.iconst 3, 1) := by decide +kernel
theorem d_law_265 : decode code 265 = .ok (.iadd, 1) := by decide +kernel
theorem d_law_266 : decode code 266 = .ok (.iaload, 1) := by decide +kernel
theorem d_law_267 : decode code 267 = .ok (.aload_n 0, 1) := by decide +kernel
theorem d_law_268 : decode code 268 = .ok (.iload_n 3, 1) := by decide +kernel
theorem d_law_269 : decode code 269 = .ok (.iconst 4, 1) := by decide +kernel
theorem d_law_270 : decode code 270 = .ok (.iadd, 1) := by decide +kernel
theorem d_law_271 : decode code 271 = .ok (.iaload, 1) := by decide +kernel
theorem d_law_272 : decode code 272 = .ok (.ifCond .eq 7, 3) := by decide +kernel
theorem d_law_275 : decode code 275 = .ok (.iconst 1, 1) := by decide +kernel
theorem d_law_276 : decode code 276 = .ok (.goto 4, 3) := by decide +kernel
theorem d_law_279 : decode code 279 = .ok (.iconst 0, 1) := by decide +kernel
theorem d_law_280 : decode code 280 = .ok (.invokevirtual 28, 3) := by decide +kernel
theorem d_law_283 : decode code 283 = .ok (.aload_n 2, 1) := by decide +kernel
theorem d_law_284 : decode code 284 = .ok (.aload_n 0, 1) := by decide +kernel
theorem d_law_285 : decode code 285 = .ok (.iload_n 3, 1) := by decide +kernel
theorem d_law_286 : decode code 286 = .ok (.iconst 1, 1) := by decide +kernel
theorem d_law_287 : decode code 287 = .ok (.iadd, 1) := by decide +kernel
theorem d_law_288 : decode code 288 = .ok (.iaload, 1) := by decide +kernel
theorem d_law_289 : decode code 289 = .ok (.aload_n 0, 1) := by decide +kernel
theorem d_law_290 : decode code 290 = .ok (.iload_n 3, 1) := by decide +kernel
theorem d_law_291 : decode code 291 = .ok (.iconst 2, 1) := by decide +kernel
theorem d_law_292 : decode code 292 = .ok (.iadd, 1) := by decide +kernel
theorem d_law_293 : decode code 293 = .ok (.iaload, 1) := by decide +kernel
theorem d_law_294 : decode code 294 = .ok (.aload_n 0, 1) := by decide +kernel
theorem d_law_295 : decode code 295 = .ok (.iload_n 3, 1) := by decide +kernel
theorem d_law_296 : decode code 296 = .ok (.iconst 3, 1) := by decide +kernel
theorem d_law_297 : decode code 297 = .ok (.iadd, 1) := by decide +kernel
theorem d_law_298 : decode code 298 = .ok (.iaload, 1) := by decide +kernel
theorem d_law_299 : decode code 299 = .ok (.aload_n 0, 1) := by decide +kernel
theorem d_law_300 : decode code 300 = .ok (.iload_n 3, 1) := by decide +kernel
theorem d_law_301 : decode code 301 = .ok (.iconst 4, 1) := by decide +kernel
theorem d_law_302 : decode code 302 = .ok (.iadd, 1) := by decide +kernel
theorem d_law_303 : decode code 303 = .ok (.iaload, 1) := by decide +kernel
theorem d_law_304 : decode code 304 = .ok (.ifCond .eq 7, 3) := by decide +kernel
theorem d_law_307 : decode code 307 = .ok (.iconst 1, 1) := by decide +kernel
theorem d_law_308 : decode code 308 = .ok (.goto 4, 3) := by decide +kernel
theorem d_law_311 : decode code 311 = .ok (.iconst 0, 1) := by decide +kernel
theorem d_law_312 : decode code 312 = .ok (.invokevirtual 31, 3) := by decide +kernel
theorem d_law_315 : decode code 315 = .ok (.goto 480, 3) := by decide +kernel
section
variable {p : Program} {l : Launch} {e : Env} {s : State} {m : MethodId} {args : Array Value} {below : List Frame} {meth : Method} {c : Code} {Q : State → Prop}
set_option maxHeartbeats 4000000 in
set_option maxRecDepth 100000 in
theorem lc_subtract (hx : p.tables.exec = Jvm.exec) (hb : c.code = code) (hml : c.maxLocals = 4) (hown : s.vm.findClass "KeyCurveLaw" = some m.cls) (hts : ∀ w ∈ kl_y :: kt_all, w.before args s = true)
    {o mo b L : Nat} {A B : Nat → Nat} {xs : Nat → Int32} {cL cR cS cI cII cZ : ClassId} {D : va_G} {tys : List (ClassId × FieldType)} {tL tR tS tI tII tZ : Nat} {H0 : Heap} (hG : kl_G o mo b L A B xs cL cR cS cI cII cZ D tys tL tR tS tI tII tZ H0 s)
    {H : Heap} {v w : Nat → Nat} {bs cs : Nat → Bool} {far : Bool} {i : Nat} {ls : Array Slot} (hI : kl_I o mo A B cL cR cS cI cII cZ D H0 H v w bs cs far) (hi : i + 5 ≤ L) (hl : lv_has ls 4 [(3, .int (nI i)), (2, .ref mo), (1, .ref o), (0, .ref b)])
    (kk : ∀ (H : Heap) (v w : Nat → Nat) (bs cs : Nat → Bool) (far : Bool), kl_I o mo A B cL cR cS cI cII cZ D H0 H v w bs cs far → W p l e room_1 s m args below meth c H [] 77 611 Q (F0 m 795 ls [])) : W p l e room_1 s m args below meth c H [] 77 611 Q (F0 m 251 ls []) := by
  obtain ⟨hz, he, hc, hm, hR⟩ := hI
  obtain ⟨hso, hmo, hL, hbo, hK, hN, hZC, gC, hZM, gM, hL0, hR0, hS0, hI0, hII0, hZ0, hX⟩ := hG
  have hom : o ≤ mo := by omega
  have hS := kl_kr (hX.kept (he b hbo))
  refine lv_aload_n hx hb d_law_251 rfl (lv_at hl 2 rfl) ?_
  refine lv_aload_n hx hb d_law_252 rfl (lv_at hl 3 rfl) ?_
  refine lv_iload_n hx hb d_law_253 rfl (lv_at hl 0 rfl) ?_
  refine lv_iconst (v := nI 1) hx hb d_law_254 (by decide) ?_
  refine lv_iadd hx hb d_law_255 ?_
  refine kq_ri (show (nI i) + (nI 1) = nI (i + 1) from nI_add i 1) ?_
  refine kq_iald hx hb hS (show i + 1 < L by omega) (by omega) rfl d_law_256 ?_
  refine lv_aload_n hx hb d_law_257 rfl (lv_at hl 3 rfl) ?_
  refine lv_iload_n hx hb d_law_258 rfl (lv_at hl 0 rfl) ?_
  refine lv_iconst (v := nI 2) hx hb d_law_259 (by decide) ?_
  refine lv_iadd hx hb d_law_260 ?_
  refine kq_ri (show (nI i) + (nI 2) = nI (i + 2) from nI_add i 2) ?_
  refine kq_iald hx hb hS (show i + 2 < L by omega) (by omega) rfl d_law_261 ?_
  refine lv_aload_n hx hb d_law_262 rfl (lv_at hl 3 rfl) ?_
  refine lv_iload_n hx hb d_law_263 rfl (lv_at hl 0 rfl) ?_
  refine lv_iconst (v := nI 3) hx hb d_law_264 (by decide) ?_
  refine lv_iadd hx hb d_law_265 ?_
  refine kq_ri (show (nI i) + (nI 3) = nI (i + 3) from nI_add i 3) ?_
  refine kq_iald hx hb hS (show i + 3 < L by omega) (by omega) rfl d_law_266 ?_
  refine lv_aload_n hx hb d_law_267 rfl (lv_at hl 3 rfl) ?_
  refine lv_iload_n hx hb d_law_268 rfl (lv_at hl 0 rfl) ?_
  refine lv_iconst (v := nI 4) hx hb d_law_269 (by decide) ?_
  refine lv_iadd hx hb d_law_270 ?_
  refine kq_ri (show (nI i) + (nI 4) = nI (i + 4) from nI_add i 4) ?_
  refine kq_iald hx hb hS (show i + 4 < L by omega) (by omega) rfl d_law_271 ?_
  refine kl_flag hx hb d_law_272 rfl d_law_275 d_law_276 rfl d_law_279 rfl ?_
  refine kq_call (va_runV (As := [.int (xs (i + 1)), .int (xs (i + 2)), .int (xs (i + 3)), .int (kq_z (decide (¬ xs (i + 4) = 0)))]) (rest := []) ⟨hx, hb, hml, hown, hts⟩ (c_Ke_subtract l (kl_C o A cL D tys H0 H) A o bs v H (kl_okC gC hL0) (kl_AC gC) (kl_OC gC hc) (kl_WC hc) (xs (i + 1)) (xs (i + 2)) (xs (i + 3)) (decide (¬ xs (i + 4) = 0))) (cwV 4 hts (kt_inV kt_w194 kt_w191 kt_w192 kt_w193 kt_w1) rfl rfl rfl (by decide +kernel) ⟨Nat.le_of_ble_eq_true rfl, Nat.le_of_ble_eq_true rfl⟩) (kq_p2V ((kr_K_s2 (kl_C o A cL D tys H0 H) A o)) (kl_KC hK hN hZC gC hL0 hR0 hS0 he hc) (kq_recv hK hc.1 rfl)) rfl rfl hl.1 rfl (lv_room (Nat.le_of_ble_eq_true rfl)) d_law_280 ⟨Nat.le_of_ble_eq_true rfl, Nat.le_of_ble_eq_true rfl⟩) (fun v9 H1 L1 hq1 hL1 => ?_)
  obtain ⟨rfl, v1, hW1, e1, k1⟩ := hq1
  refine W.eq (g2 := F0 m 283 ls []) rfl ?_
  refine va_forget (fun q hq => by
    have z := hL1 q hq
    have hh := kx_h_ge o ((decide (¬ xs (i + 4) = 0)))
    rcases z with z | z | z
    · rw [z]
      omega
    · rw [z]
      omega
    · rw [z]
      omega) ?_
  have hc1 := hc.back hW1
  have off1 := kl_offC hW1
  have hm1 := hm.same (fun q q1 q2 => off1.2 q (Or.inr (by omega)))
  have he1 : ∀ q, q < o → H1[q]? = H0[q]? := fun q hq => (off1.2 q (Or.inl hq)).trans (he q hq)
  have hS1 := hS.other (H1 := H1) (off1.2 b (Or.inl hbo))
  have hS := hS1
  refine lv_aload_n hx hb d_law_283 rfl (lv_at hl 1 rfl) ?_
  refine lv_aload_n hx hb d_law_284 rfl (lv_at hl 3 rfl) ?_
  refine lv_iload_n hx hb d_law_285 rfl (lv_at hl 0 rfl) ?_
  refine lv_iconst (v := nI 1) hx hb d_law_286 (by decide) ?_
  refine lv_iadd hx hb d_law_287 ?_
  refine kq_ri (show (nI i) + (nI 1) = nI (i + 1) from nI_add i 1) ?_
  refine kq_iald hx hb hS (show i + 1 < L by omega) (by omega) rfl d_law_288 ?_
  refine lv_aload_n hx hb d_law_289 rfl (lv_at hl 3 rfl) ?_
  refine lv_iload_n hx hb d_law_290 rfl (lv_at hl 0 rfl) ?_
  refine lv_iconst (v := nI 2) hx hb d_law_291 (by decide) ?_
  refine lv_iadd hx hb d_law_292 ?_
  refine kq_ri (show (nI i) + (nI 2) = nI (i + 2) from nI_add i 2) ?_
  refine kq_iald hx hb hS (show i + 2 < L by omega) (by omega) rfl d_law_293 ?_
  refine lv_aload_n hx hb d_law_294 rfl (lv_at hl 3 rfl) ?_
  refine lv_iload_n hx hb d_law_295 rfl (lv_at hl 0 rfl) ?_
  refine lv_iconst (v := nI 3) hx hb d_law_296 (by decide) ?_
  refine lv_iadd hx hb d_law_297 ?_
  refine kq_ri (show (nI i) + (nI 3) = nI (i + 3) from nI_add i 3) ?_
  refine kq_iald hx hb hS (show i + 3 < L by omega) (by omega) rfl d_law_298 ?_
  refine lv_aload_n hx hb d_law_299 rfl (lv_at hl 3 rfl) ?_
  refine lv_iload_n hx hb d_law_300 rfl (lv_at hl 0 rfl) ?_
  refine lv_iconst (v := nI 4) hx hb d_law_301 (by decide) ?_
  refine lv_iadd hx hb d_law_302 ?_
  refine kq_ri (show (nI i) + (nI 4) = nI (i + 4) from nI_add i 4) ?_
  refine kq_iald hx hb hS (show i + 4 < L by omega) (by omega) rfl d_law_303 ?_
  refine kl_flag hx hb d_law_304 rfl d_law_307 d_law_308 rfl d_law_311 rfl ?_
  refine kq_call (va_runV (As := [.int (xs (i + 1)), .int (xs (i + 2)), .int (xs (i + 3)), .int (kq_z (decide (¬ xs (i + 4) = 0)))]) (rest := []) ⟨hx, hb, hml, hown, hts⟩ (c_Mo_subtract l (kl_M mo B cI D tys H0 H1) B mo far w H1 (kl_okM gM hom hI0) (kl_AM gM hom) (kl_FM (tys := tys) gM hom hm1).1 kl_GM (kl_WM hm1) (xs (i + 1)) (xs (i + 2)) (xs (i + 3)) (decide (¬ xs (i + 4) = 0))) (cwV 4 hts (kt_inV kt_w483 kt_w480 kt_w481 kt_w482 kt_w5) rfl rfl rfl (by decide +kernel) ⟨Nat.le_of_ble_eq_true rfl, Nat.le_of_ble_eq_true rfl⟩) (kq_preV ((ks_K_st (kl_M mo B cI D tys H0 H1) B mo)) ((kl_KM hK hZM gM hom hI0 hII0 hZ0 he1 hm1).1) (kq_recv hK hm1.1 rfl)) rfl rfl hl.1 rfl (lv_room (Nat.le_of_ble_eq_true rfl)) d_law_312 ⟨Nat.le_of_ble_eq_true rfl, Nat.le_of_ble_eq_true rfl⟩) (fun v9 H2 L2 hq2 hL2 => ?_)
  obtain ⟨rfl, w2, hW2, e2, k2⟩ := hq2
  refine W.eq (g2 := F0 m 315 ls []) rfl ?_
  refine va_forget (fun q hq => by
    have z := hL2 q hq
    have hh := kx_h_ge o ((decide (¬ xs (i + 4) = 0)))
    rcases z with z | z
    · rw [z]
      omega
    · unfold ks_fr at z
      omega) ?_
  have hX2 := ks_X_self hW2 (kl_FM gM hom hm1)
  obtain ⟨hm2, z2, off2⟩ := hm1.back gM hom hX2
  have hc2 := hc1.same (fun q q1 q2 => off2 q (Or.inl (by omega)))
  have hz2 : H2.size = o + 77 := z2.trans (off1.1.trans hz)
  have he2 : ∀ q, q < o → H2[q]? = H0[q]? := fun q hq => (off2 q (Or.inl (by omega))).trans (he1 q hq)
  have hI2 : kl_I o mo A B cL cR cS cI cII cZ D H0 H2 _ _ _ _ _ := ⟨hz2, he2, hc2, hm2, hR.reg (kx3_lt (xs (i + 1))) (by rw [e1, e2, (hR _ (kx3_lt (xs (i + 2)))).1, (hR _ (kx3_lt (xs (i + 3)))).1]) (fun q q1 q2 q3 => k1 q q1 (by have := kx_h_ge o ((decide (¬ xs (i + 4) = 0))); omega) (by have := kx_h_ge o ((decide (¬ xs (i + 4) = 0))); omega)) (fun q q1 q2 q3 => k2 q q1 (by unfold ks_fr; omega))⟩
  refine lv_goto hx hb d_law_315 rfl ?_
  exact kk _ _ _ _ _ _ hI2
end
theorem d_law_318 : decode code 318 = .ok (.aload_n 1, 1) := by decide +kernel
theorem d_law_319 : decode code 319 = .ok (.aload_n 0, 1) := by decide +kernel
theorem d_law_320 : decode code 320 = .ok (.iload_n 3, 1) := by decide +kernel
theorem d_law_321 : decode code 321 = .ok (.iconst 1, 1) := by decide +kernel
theorem d_law_322 : decode code 322 = .ok (.iadd, 1) := by decide +kernel
theorem d_law_323 : decode code 323 = .ok (.iaload, 1) := by decide +kernel
theorem d_law_324 : decode code 324 = .ok (.aload_n 0, 1) := by decide +kernel
theorem d_law_325 : decode code 325 = .ok (.iload_n 3, 1) := by decide +kernel
theorem d_law_326 : decode code 326 = .ok (.iconst 2, 1) := by decide +kernel
theorem d_law_327 : decode code 327 = .ok (.iadd, 1) := by decide +kernel
theorem d_law_328 : decode code 328 = .ok (.iaload, 1) := by decide +kernel
theorem d_law_329 : decode code 329 = .ok (.aload_n 0, 1) := by decide +kernel
theorem d_law_330 : decode code 330 = .ok (.iload_n 3, 1) := by decide +kernel
theorem d_law_331 : decode code 331 = .ok (.iconst 3, 1) := by decide +kernel
theorem d_law_332 : decode code 332 = .ok (.iadd, 1) := by decide +kernel
theorem d_law_333 : decode code 333 = .ok (.iaload, 1) := by decide +kernel
theorem d_law_334 : decode code 334 = .ok (.aload_n 0, 1) := by decide +kernel
theorem d_law_335 : decode code 335 = .ok (.iload_n 3, 1) := by decide +kernel
theorem d_law_336 : decode code 336 = .ok (.iconst 4, 1) := by decide +kernel
theorem d_law_337 : decode code 337 = .ok (.iadd, 1) := by decide +kernel
theorem d_law_338 : decode code 338 = .ok (.iaload, 1) := by decide +kernel
theorem d_law_339 : decode code 339 = .ok (.ifCond .eq 7, 3) := by decide +kernel
theorem d_law_342 : decode code 342 = .ok (.iconst 1, 1) := by decide +kernel
theorem d_law_343 : decode code 343 = .ok (.goto 4, 3) := by decide +kernel
theorem d_law_346 : decode code 346 = .ok (.iconst 0, 1) := by decide +kernel
theorem d_law_347 : decode code 347 = .ok (.invokevirtual 32, 3) := by decide +kernel
theorem d_law_350 : decode code 350 = .ok (.aload_n 2, 1) := by decide +kernel
theorem d_law_351 : decode code 351 = .ok (.aload_n 0, 1) := by decide +kernel
theorem d_law_352 : decode code 352 = .ok (.iload_n 3, 1) := by decide +kernel
theorem d_law_353 : decode code 353 = .ok (.iconst 1, 1) := by decide +kernel
theorem d_law_354 : decode code 354 = .ok (.iadd, 1) := by decide +kernel
theorem d_law_355 : decode code 355 = .ok (.iaload, 1) := by decide +kernel
theorem d_law_356 : decode code 356 = .ok (.aload_n 0, 1) := by decide +kernel
theorem d_law_357 : decode code 357 = .ok (.iload_n 3, 1) := by decide +kernel
theorem d_law_358 : decode code 358 = .ok (.iconst 2, 1) := by decide +kernel
theorem d_law_359 : decode code 359 = .ok (.iadd, 1) := by decide +kernel
theorem d_law_360 : decode code 360 = .ok (.iaload, 1) := by decide +kernel
theorem d_law_361 : decode code 361 = .ok (.aload_n 0, 1) := by decide +kernel
theorem d_law_362 : decode code 362 = .ok (.iload_n 3, 1) := by decide +kernel
theorem d_law_363 : decode code 363 = .ok (.iconst 3, 1) := by decide +kernel
theorem d_law_364 : decode code 364 = .ok (.iadd, 1) := by decide +kernel
theorem d_law_365 : decode code 365 = .ok (.iaload, 1) := by decide +kernel
theorem d_law_366 : decode code 366 = .ok (.aload_n 0, 1) := by decide +kernel
theorem d_law_367 : decode code 367 = .ok (.iload_n 3, 1) := by decide +kernel
theorem d_law_368 : decode code 368 = .ok (.iconst 4, 1) := by decide +kernel
theorem d_law_369 : decode code 369 = .ok (.iadd, 1) := by decide +kernel
theorem d_law_370 : decode code 370 = .ok (.iaload, 1) := by decide +kernel
theorem d_law_371 : decode code 371 = .ok (.ifCond .eq 7, 3) := by decide +kernel
theorem d_law_374 : decode code 374 = .ok (.iconst 1, 1) := by decide +kernel
theorem d_law_375 : decode code 375 = .ok (.goto 4, 3) := by decide +kernel
theorem d_law_378 : decode code 378 = .ok (.iconst 0, 1) := by decide +kernel
theorem d_law_379 : decode code 379 = .ok (.invokevirtual 35, 3) := by decide +kernel
theorem d_law_382 : decode code 382 = .ok (.goto 413, 3) := by decide +kernel
section
variable {p : Program} {l : Launch} {e : Env} {s : State} {m : MethodId} {args : Array Value} {below : List Frame} {meth : Method} {c : Code} {Q : State → Prop}
set_option maxHeartbeats 4000000 in
set_option maxRecDepth 100000 in
theorem lc_multiply (hx : p.tables.exec = Jvm.exec) (hb : c.code = code) (hml : c.maxLocals = 4) (hown : s.vm.findClass "KeyCurveLaw" = some m.cls) (hts : ∀ w ∈ kl_y :: kt_all, w.before args s = true)
    {o mo b L : Nat} {A B : Nat → Nat} {xs : Nat → Int32} {cL cR cS cI cII cZ : ClassId} {D : va_G} {tys : List (ClassId × FieldType)} {tL tR tS tI tII tZ : Nat} {H0 : Heap} (hG : kl_G o mo b L A B xs cL cR cS cI cII cZ D tys tL tR tS tI tII tZ H0 s)
    {H : Heap} {v w : Nat → Nat} {bs cs : Nat → Bool} {far : Bool} {i : Nat} {ls : Array Slot} (hI : kl_I o mo A B cL cR cS cI cII cZ D H0 H v w bs cs far) (hi : i + 5 ≤ L) (hl : lv_has ls 4 [(3, .int (nI i)), (2, .ref mo), (1, .ref o), (0, .ref b)])
    (kk : ∀ (H : Heap) (v w : Nat → Nat) (bs cs : Nat → Bool) (far : Bool), kl_I o mo A B cL cR cS cI cII cZ D H0 H v w bs cs far → W p l e room_1 s m args below meth c H [] 77 611 Q (F0 m 795 ls [])) : W p l e room_1 s m args below meth c H [] 77 611 Q (F0 m 318 ls []) := by
  obtain ⟨hz, he, hc, hm, hR⟩ := hI
  obtain ⟨hso, hmo, hL, hbo, hK, hN, hZC, gC, hZM, gM, hL0, hR0, hS0, hI0, hII0, hZ0, hX⟩ := hG
  have hom : o ≤ mo := by omega
  have hS := kl_kr (hX.kept (he b hbo))
  refine lv_aload_n hx hb d_law_318 rfl (lv_at hl 2 rfl) ?_
  refine lv_aload_n hx hb d_law_319 rfl (lv_at hl 3 rfl) ?_
  refine lv_iload_n hx hb d_law_320 rfl (lv_at hl 0 rfl) ?_
  refine lv_iconst (v := nI 1) hx hb d_law_321 (by decide) ?_
  refine lv_iadd hx hb d_law_322 ?_
  refine kq_ri (show (nI i) + (nI 1) = nI (i + 1) from nI_add i 1) ?_
  refine kq_iald hx hb hS (show i + 1 < L by omega) (by omega) rfl d_law_323 ?_
  refine lv_aload_n hx hb d_law_324 rfl (lv_at hl 3 rfl) ?_
  refine lv_iload_n hx hb d_law_325 rfl (lv_at hl 0 rfl) ?_
  refine lv_iconst (v := nI 2) hx hb d_law_326 (by decide) ?_
  refine lv_iadd hx hb d_law_327 ?_
  refine kq_ri (show (nI i) + (nI 2) = nI (i + 2) from nI_add i 2) ?_
  refine kq_iald hx hb hS (show i + 2 < L by omega) (by omega) rfl d_law_328 ?_
  refine lv_aload_n hx hb d_law_329 rfl (lv_at hl 3 rfl) ?_
  refine lv_iload_n hx hb d_law_330 rfl (lv_at hl 0 rfl) ?_
  refine lv_iconst (v := nI 3) hx hb d_law_331 (by decide) ?_
  refine lv_iadd hx hb d_law_332 ?_
  refine kq_ri (show (nI i) + (nI 3) = nI (i + 3) from nI_add i 3) ?_
  refine kq_iald hx hb hS (show i + 3 < L by omega) (by omega) rfl d_law_333 ?_
  refine lv_aload_n hx hb d_law_334 rfl (lv_at hl 3 rfl) ?_
  refine lv_iload_n hx hb d_law_335 rfl (lv_at hl 0 rfl) ?_
  refine lv_iconst (v := nI 4) hx hb d_law_336 (by decide) ?_
  refine lv_iadd hx hb d_law_337 ?_
  refine kq_ri (show (nI i) + (nI 4) = nI (i + 4) from nI_add i 4) ?_
  refine kq_iald hx hb hS (show i + 4 < L by omega) (by omega) rfl d_law_338 ?_
  refine kl_flag hx hb d_law_339 rfl d_law_342 d_law_343 rfl d_law_346 rfl ?_
  refine kq_call (va_runV (As := [.int (xs (i + 1)), .int (xs (i + 2)), .int (xs (i + 3)), .int (kq_z (decide (¬ xs (i + 4) = 0)))]) (rest := []) ⟨hx, hb, hml, hown, hts⟩ (c_Ke_multiply l (kl_C o A cL D tys H0 H) A o bs v H (kl_okC gC hL0) (kl_AC gC) (kl_OC gC hc) (kl_WC hc) (xs (i + 1)) (xs (i + 2)) (xs (i + 3)) (decide (¬ xs (i + 4) = 0))) (cwV 4 hts (kt_inV kt_w202 kt_w199 kt_w200 kt_w201 kt_w1) rfl rfl rfl (by decide +kernel) ⟨Nat.le_of_ble_eq_true rfl, Nat.le_of_ble_eq_true rfl⟩) (kq_p2V ((kr_K_s2 (kl_C o A cL D tys H0 H) A o)) (kl_KC hK hN hZC gC hL0 hR0 hS0 he hc) (kq_recv hK hc.1 rfl)) rfl rfl hl.1 rfl (lv_room (Nat.le_of_ble_eq_true rfl)) d_law_347 ⟨Nat.le_of_ble_eq_true rfl, Nat.le_of_ble_eq_true rfl⟩) (fun v9 H1 L1 hq1 hL1 => ?_)
  obtain ⟨rfl, v1, hW1, e1, k1⟩ := hq1
  refine W.eq (g2 := F0 m 350 ls []) rfl ?_
  refine va_forget (fun q hq => by
    have z := hL1 q hq
    have hh := kx_h_ge o ((decide (¬ xs (i + 4) = 0)))
    rcases z with z | z | z
    · rw [z]
      omega
    · rw [z]
      omega
    · rw [z]
      omega) ?_
  have hc1 := hc.back hW1
  have off1 := kl_offC hW1
  have hm1 := hm.same (fun q q1 q2 => off1.2 q (Or.inr (by omega)))
  have he1 : ∀ q, q < o → H1[q]? = H0[q]? := fun q hq => (off1.2 q (Or.inl hq)).trans (he q hq)
  have hS1 := hS.other (H1 := H1) (off1.2 b (Or.inl hbo))
  have hS := hS1
  refine lv_aload_n hx hb d_law_350 rfl (lv_at hl 1 rfl) ?_
  refine lv_aload_n hx hb d_law_351 rfl (lv_at hl 3 rfl) ?_
  refine lv_iload_n hx hb d_law_352 rfl (lv_at hl 0 rfl) ?_
  refine lv_iconst (v := nI 1) hx hb d_law_353 (by decide) ?_
  refine lv_iadd hx hb d_law_354 ?_
  refine kq_ri (show (nI i) + (nI 1) = nI (i + 1) from nI_add i 1) ?_
  refine kq_iald hx hb hS (show i + 1 < L by omega) (by omega) rfl d_law_355 ?_
  refine lv_aload_n hx hb d_law_356 rfl (lv_at hl 3 rfl) ?_
  refine lv_iload_n hx hb d_law_357 rfl (lv_at hl 0 rfl) ?_
  refine lv_iconst (v := nI 2) hx hb d_law_358 (by decide) ?_
  refine lv_iadd hx hb d_law_359 ?_
  refine kq_ri (show (nI i) + (nI 2) = nI (i + 2) from nI_add i 2) ?_
  refine kq_iald hx hb hS (show i + 2 < L by omega) (by omega) rfl d_law_360 ?_
  refine lv_aload_n hx hb d_law_361 rfl (lv_at hl 3 rfl) ?_
  refine lv_iload_n hx hb d_law_362 rfl (lv_at hl 0 rfl) ?_
  refine lv_iconst (v := nI 3) hx hb d_law_363 (by decide) ?_
  refine lv_iadd hx hb d_law_364 ?_
  refine kq_ri (show (nI i) + (nI 3) = nI (i + 3) from nI_add i 3) ?_
  refine kq_iald hx hb hS (show i + 3 < L by omega) (by omega) rfl d_law_365 ?_
  refine lv_aload_n hx hb d_law_366 rfl (lv_at hl 3 rfl) ?_
  refine lv_iload_n hx hb d_law_367 rfl (lv_at hl 0 rfl) ?_
  refine lv_iconst (v := nI 4) hx hb d_law_368 (by decide) ?_
  refine lv_iadd hx hb d_law_369 ?_
  refine kq_ri (show (nI i) + (nI 4) = nI (i + 4) from nI_add i 4) ?_
  refine kq_iald hx hb hS (show i + 4 < L by omega) (by omega) rfl d_law_370 ?_
  refine kl_flag hx hb d_law_371 rfl d_law_374 d_law_375 rfl d_law_378 rfl ?_
  refine kq_call (va_runV (As := [.int (xs (i + 1)), .int (xs (i + 2)), .int (xs (i + 3)), .int (kq_z (decide (¬ xs (i + 4) = 0)))]) (rest := []) ⟨hx, hb, hml, hown, hts⟩ (c_Mo_multiply_0 l (kl_M mo B cI D tys H0 H1) B mo far w H1 (kl_okM gM hom hI0) (kl_AM gM hom) (kl_FM (tys := tys) gM hom hm1).1 kl_GM (kl_WM hm1) (xs (i + 1)) (xs (i + 2)) (xs (i + 3)) (decide (¬ xs (i + 4) = 0))) (cwV 4 hts (kt_inV kt_w487 kt_w484 kt_w485 kt_w486 kt_w5) rfl rfl rfl (by decide +kernel) ⟨Nat.le_of_ble_eq_true rfl, Nat.le_of_ble_eq_true rfl⟩) (kq_preV ((ks_K_st (kl_M mo B cI D tys H0 H1) B mo)) ((kl_KM hK hZM gM hom hI0 hII0 hZ0 he1 hm1).1) (kq_recv hK hm1.1 rfl)) rfl rfl hl.1 rfl (lv_room (Nat.le_of_ble_eq_true rfl)) d_law_379 ⟨Nat.le_of_ble_eq_true rfl, Nat.le_of_ble_eq_true rfl⟩) (fun v9 H2 L2 hq2 hL2 => ?_)
  obtain ⟨rfl, w2, hW2, e2, k2⟩ := hq2
  refine W.eq (g2 := F0 m 382 ls []) rfl ?_
  refine va_forget (fun q hq => by
    have z := hL2 q hq
    have hh := kx_h_ge o ((decide (¬ xs (i + 4) = 0)))
    rcases z with z | z
    · rw [z]
      omega
    · unfold ks_fr at z
      omega) ?_
  have hX2 := ks_X_self hW2 (kl_FM gM hom hm1)
  obtain ⟨hm2, z2, off2⟩ := hm1.back gM hom hX2
  have hc2 := hc1.same (fun q q1 q2 => off2 q (Or.inl (by omega)))
  have hz2 : H2.size = o + 77 := z2.trans (off1.1.trans hz)
  have he2 : ∀ q, q < o → H2[q]? = H0[q]? := fun q hq => (off2 q (Or.inl (by omega))).trans (he1 q hq)
  have hI2 : kl_I o mo A B cL cR cS cI cII cZ D H0 H2 _ _ _ _ _ := ⟨hz2, he2, hc2, hm2, hR.reg (kx3_lt (xs (i + 1))) (by rw [e1, e2, (hR _ (kx3_lt (xs (i + 2)))).1, (hR _ (kx3_lt (xs (i + 3)))).1]) (fun q q1 q2 q3 => k1 q q1 (by have := kx_h_ge o ((decide (¬ xs (i + 4) = 0))); omega) (by have := kx_h_ge o ((decide (¬ xs (i + 4) = 0))); omega)) (fun q q1 q2 q3 => k2 q q1 (by unfold ks_fr; omega))⟩
  refine lv_goto hx hb d_law_382 rfl ?_
  exact kk _ _ _ _ _ _ hI2
end
