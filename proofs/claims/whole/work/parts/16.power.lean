/-! What the methods know of links across the nest and of the constants; Prime.power, inverse (own rows). -/
def kX_G : Nat := 55066263022277343669578718895168534326250603453777594175500187360389116729240
def kY_G : Nat := 32670510020758816978083085130507043184471273380659243275938904335757337482424
/-- what is said of a state, kept by calls and by what they link -/
def kq_s2 (B : State → Prop) : Prop := ∀ u U : State, (u.vm = U.vm ∨ u.WarmedH U.vm) → B u → B U
theorem kq_al {u U : State} (h : u.vm = U.vm ∨ u.WarmedH U.vm) : u.vm.Alike U.vm := by
  rcases h with e | w
  · rw [e]
    exact Vm.Alike.refl _
  · exact w.alike
theorem kq_st.two {B : State → Prop} (h : kq_st B) : kq_s2 B := fun u U hv q => h u U (kq_al hv) q
theorem kq_s2.both {B C : State → Prop} (h : kq_s2 B) (g : kq_s2 C) : kq_s2 (fun U => B U ∧ C U) := fun u U hv q => ⟨h u U hv q.1, g u U hv q.2⟩
theorem kq_s2_F {a : String} {i : Nat} {b n d h : String} : kq_s2 (fun U => va_Nw (.fieldLinkNest a i b n d h) U) := fun _ _ hv q => hv.elim (fun e => va_Nw.same rfl e q) (fun w => va_Nw.warmF w q)
theorem kq_s2_Z {C n d : String} {v : Value} {A : Nat → Prop} {H : Heap} : kq_s2 (fun U => va_Z C n d v A U H) := fun _ _ hv q => q.moved (kq_al hv)
theorem kq_p2S {s : State} {H : Heap} {As : List Value} {B : State → Prop} (hB : kq_s2 B) (h : B s) : PreS s H (kq_P As H B) As :=
  ⟨fun _ U _ _ q => ⟨q.1, q.2.1, hB U _ (Or.inl rfl) q.2.2⟩, fun U hU hW => ⟨rfl, hU, hB s U (Or.inr hW) h⟩⟩
theorem kq_p2V {s : State} {H : Heap} {C : String} {b : Addr} {As : List Value} {B : State → Prop} (hB : kq_s2 B) (h : B s) (hc : ∃ cellB : Cell, H[b]? = some cellB ∧ cellB.vm.isStatics = false ∧ s.vm.findClass C = some cellB.cls) : PreV s H C b (kq_P (.ref b :: As) H B) As :=
  ⟨fun _ U _ _ q => ⟨q.1, q.2.1, hB U _ (Or.inl rfl) q.2.2⟩, hc, fun U hU hW => ⟨rfl, hU, hB s U (Or.inr hW) h⟩⟩
def kr_N (U : State) : Prop := va_Nw (.fieldLinkNest "KeyCurve$Prime" 75 "KeyCurve" "ONE" "[J" "KeyCurve") U ∧ va_Nw (.fieldLinkNest "KeyCurve$Curve" 61 "KeyCurve" "ROOT_POWER" "[J" "KeyCurve") U ∧ va_Nw (.fieldLinkNest "KeyCurve$Curve" 79 "KeyCurve" "FIELD" "[J" "KeyCurve") U ∧ va_Nw (.fieldLinkNest "KeyCurve$Curve" 99 "KeyCurve" "SEVEN" "[J" "KeyCurve") U ∧ va_Nw (.fieldLinkNest "KeyCurve$Curve" 105 "KeyCurve" "ONE" "[J" "KeyCurve") U
theorem kr_N_s2 : kq_s2 kr_N := kq_s2_F.both (kq_s2_F.both (kq_s2_F.both (kq_s2_F.both (kq_s2_F))))
def kr_Z (E : kr_E) (A : Nat → Nat) (U : State) : Prop := va_Z "KeyCurve" "FIELD" "[J" (.ref (A 0)) (kr_L E) U (kr_H E) ∧ va_Z "KeyCurve" "ONE" "[J" (.ref (A 1)) (kr_L E) U (kr_H E) ∧ va_Z "KeyCurve" "SEVEN" "[J" (.ref (A 2)) (kr_L E) U (kr_H E) ∧ va_Z "KeyCurve" "ROOT_POWER" "[J" (.ref (A 3)) (kr_L E) U (kr_H E) ∧ va_Z "KeyCurve" "BASE_X" "[J" (.ref (A 4)) (kr_L E) U (kr_H E) ∧ va_Z "KeyCurve" "BASE_Y" "[J" (.ref (A 5)) (kr_L E) U (kr_H E)
theorem kr_Z_s2 (E : kr_E) (A : Nat → Nat) : kq_s2 (kr_Z E A) := kq_s2_Z.both (kq_s2_Z.both (kq_s2_Z.both (kq_s2_Z.both (kq_s2_Z.both (kq_s2_Z)))))
def kr_A (E : kr_E) (A : Nat → Nat) : Prop := (kr_S E (A 0) ∧ kr_v E (A 0) = kP) ∧ (kr_S E (A 1) ∧ kr_v E (A 1) = 1) ∧ (kr_S E (A 2) ∧ kr_v E (A 2) = 7) ∧ (kr_S E (A 3) ∧ kr_v E (A 3) = (kP + 1) / 4) ∧ (kr_S E (A 4) ∧ kr_v E (A 4) = kX_G) ∧ (kr_S E (A 5) ∧ kr_v E (A 5) = kY_G)
def kr_C (E : kr_E) (A : Nat → Nat) (U : State) : Prop := kr_B E U ∧ kr_N U ∧ kr_Z E A U
theorem kr_C_s2 (E : kr_E) (A : Nat → Nat) : kq_s2 (kr_C E A) := (kr_st E).two.both (kr_N_s2.both (kr_Z_s2 E A))
theorem kr_zat {E : kr_E} {w : Nat → Nat} {H : Heap} {s : State} {C n d : String} {v : Value} (hW : kr_W E w H) (hZ : va_Z C n d v (kr_L E) s (kr_H E)) : va_Z C n d v (kr_L E) s H := hZ.kept (fun a _ hn => hW.2.2.1 a hn)
theorem kr_cst {E : kr_E} {w : Nat → Nat} {H : Heap} {a X : Nat} (hW : kr_W E w H) (h : kr_S E a ∧ kr_v E a = X) : w a = X := by
  rw [hW.2.2.2.2 a h.1]
  exact h.2
section KG
variable {p : Program} {l : Launch} {e : Env} {R : Room} {s : State} {m : MethodId} {args : Array Value} {below : List Frame} {meth : Method} {c : Code} {H : Heap} {locs : List Loc} {cells slots : Nat} {Q : State → Prop}
variable {cc : ByteArray} {pc : Nat} {ls : Array Slot} {rest : List Value}
theorem kq_getsN {C n d own host : String} {v : Value} {index : Nat} {A : Nat → Prop} (hexec : p.tables.exec = Jvm.exec) (hb : c.code = cc) (hZ : va_Z C n d v A s H) (hown : s.vm.findClass own = some m.cls) (hN : va_Nw (.fieldLinkNest own index C n d host) s) (hdg : decode cc pc = .ok (.getstatic index, 3))
    (kk : W p l e R s m args below meth c H locs cells slots Q (F0 m (pc + 3) ls (v :: rest))) : W p l e R s m args below meth c H locs cells slots Q (F0 m pc ls rest) := by
  obtain ⟨cf, kf, fi, f, a, cell, h1, h2, h3, h4, h5, h6, h7, h8⟩ := hZ
  exact va_WgetsN hexec hb hown (va_Nw.use rfl hN) h1 h2 h3 h4 h5 (fun e => by rw [e] at h6; cases h6) h7 rfl hdg kk
end KG
theorem d_Pr_power_0 : decode b_Pr_power 0 = .ok (.aload_n 0, 1) := by decide +kernel
theorem d_Pr_power_1 : decode b_Pr_power 1 = .ok (.getfield 18, 3) := by decide +kernel
theorem d_Pr_power_4 : decode b_Pr_power 4 = .ok (.aload_n 2, 1) := by decide +kernel
theorem d_Pr_power_5 : decode b_Pr_power 5 = .ok (.invokestatic 71, 3) := by decide +kernel
theorem d_Pr_power_8 : decode b_Pr_power 8 = .ok (.aload_n 0, 1) := by decide +kernel
theorem d_Pr_power_9 : decode b_Pr_power 9 = .ok (.getfield 21, 3) := by decide +kernel
theorem d_Pr_power_12 : decode b_Pr_power 12 = .ok (.getstatic 75, 3) := by decide +kernel
theorem d_Pr_power_15 : decode b_Pr_power 15 = .ok (.invokestatic 71, 3) := by decide +kernel
theorem d_Pr_power_18 : decode b_Pr_power 18 = .ok (.sipush 255, 3) := by decide +kernel
theorem d_Pr_power_21 : decode b_Pr_power 21 = .ok (.istore 4, 2) := by decide +kernel
theorem d_Pr_power_23 : decode b_Pr_power 23 = .ok (.iload 4, 2) := by decide +kernel
theorem d_Pr_power_25 : decode b_Pr_power 25 = .ok (.ifCond .lt 50, 3) := by decide +kernel
theorem d_Pr_power_28 : decode b_Pr_power 28 = .ok (.aload_n 0, 1) := by decide +kernel
theorem d_Pr_power_29 : decode b_Pr_power 29 = .ok (.aload_n 0, 1) := by decide +kernel
theorem d_Pr_power_30 : decode b_Pr_power 30 = .ok (.getfield 21, 3) := by decide +kernel
theorem d_Pr_power_33 : decode b_Pr_power 33 = .ok (.aload_n 0, 1) := by decide +kernel
theorem d_Pr_power_34 : decode b_Pr_power 34 = .ok (.getfield 21, 3) := by decide +kernel
theorem d_Pr_power_37 : decode b_Pr_power 37 = .ok (.aload_n 0, 1) := by decide +kernel
theorem d_Pr_power_38 : decode b_Pr_power 38 = .ok (.getfield 21, 3) := by decide +kernel
theorem d_Pr_power_41 : decode b_Pr_power 41 = .ok (.invokevirtual 78, 3) := by decide +kernel
theorem d_Pr_power_44 : decode b_Pr_power 44 = .ok (.aload_n 3, 1) := by decide +kernel
theorem d_Pr_power_45 : decode b_Pr_power 45 = .ok (.iload 4, 2) := by decide +kernel
theorem d_Pr_power_47 : decode b_Pr_power 47 = .ok (.invokestatic 82, 3) := by decide +kernel
theorem d_Pr_power_50 : decode b_Pr_power 50 = .ok (.ifCond .eq 19, 3) := by decide +kernel
theorem d_Pr_power_53 : decode b_Pr_power 53 = .ok (.aload_n 0, 1) := by decide +kernel
theorem d_Pr_power_54 : decode b_Pr_power 54 = .ok (.aload_n 0, 1) := by decide +kernel
theorem d_Pr_power_55 : decode b_Pr_power 55 = .ok (.getfield 21, 3) := by decide +kernel
theorem d_Pr_power_58 : decode b_Pr_power 58 = .ok (.aload_n 0, 1) := by decide +kernel
theorem d_Pr_power_59 : decode b_Pr_power 59 = .ok (.getfield 21, 3) := by decide +kernel
theorem d_Pr_power_62 : decode b_Pr_power 62 = .ok (.aload_n 0, 1) := by decide +kernel
theorem d_Pr_power_63 : decode b_Pr_power 63 = .ok (.getfield 18, 3) := by decide +kernel
theorem d_Pr_power_66 : decode b_Pr_power 66 = .ok (.invokevirtual 78, 3) := by decide +kernel
theorem d_Pr_power_69 : decode b_Pr_power 69 = .ok (.iinc 4 (-1), 3) := by decide +kernel
theorem d_Pr_power_72 : decode b_Pr_power 72 = .ok (.goto (-49), 3) := by decide +kernel
theorem d_Pr_power_75 : decode b_Pr_power 75 = .ok (.aload_n 1, 1) := by decide +kernel
theorem d_Pr_power_76 : decode b_Pr_power 76 = .ok (.aload_n 0, 1) := by decide +kernel
theorem d_Pr_power_77 : decode b_Pr_power 77 = .ok (.getfield 21, 3) := by decide +kernel
theorem d_Pr_power_80 : decode b_Pr_power 80 = .ok (.invokestatic 71, 3) := by decide +kernel
theorem d_Pr_power_83 : decode b_Pr_power 83 = .ok (.return_, 1) := by decide +kernel
section
variable {p : Program} {l : Launch} {e : Env} {R : Room} {s : State} {m : MethodId} {args : Array Value} {below : List Frame} {meth : Method} {c : Code} {cells slots : Nat} {Q : State → Prop}
set_option maxHeartbeats 4000000 in
set_option maxRecDepth 100000 in
theorem lp_Pr_power (hx : p.tables.exec = Jvm.exec) (hb : c.code = b_Pr_power) (hts : ∀ w ∈ w_Pr_power, w.before args s = true) (hown : s.vm.findClass R_Pr = some m.cls) (hml : c.maxLocals = 5) (hRf : 3 ≤ R.frames) (hRl : 75 ≤ R.locals) {E : kr_E} {h pa ga gw mm G : Nat} (hE : kr_ok E) (hP : kr_P E h pa ga gw mm G) (hB : kr_B E s) {r x a0 : Nat} {v : Nat → Nat} (hxS : kr_S E x) (hsd : v (h + 3) = a0)
    (kk : ∀ (w : Nat → Nat) (H : Heap) (ls : Array Slot) (locs : List Loc), kr_W E w H → w (h + 4) = a0 ^ v x % mm → (∀ q, q ≠ h + 1 → q ≠ h + 2 → q ≠ h + 4 → w q = v q) → (∀ q ∈ locs, q.base = h + 1 ∨ q.base = h + 2 ∨ q.base = h + 3 ∨ q.base = h + 4) → lv_has ls 5 [(0, .ref h), (1, .ref r)] → W p l e R s m args below meth c H locs 0 0 Q (F0 m 75 ls [])) :
    ∀ (n : Nat) (w : Nat → Nat) (H : Heap) (ls : Array Slot) (locs : List Loc), n ≤ 256 → kr_W E w H → w (h + 4) = a0 ^ (v x / 2 ^ n) % mm → (∀ q, q ≠ h + 1 → q ≠ h + 2 → q ≠ h + 4 → w q = v q) → (∀ q ∈ locs, q.base = h + 1 ∨ q.base = h + 2 ∨ q.base = h + 3 ∨ q.base = h + 4) → lv_has ls 5 [(4, .int (kq_dn n)), (0, .ref h), (1, .ref r), (3, .ref x)] → W p l e R s m args below meth c H locs 0 0 Q (F0 m 23 ls []) := by
  intro n
  induction n with
  | zero =>
    intro w H ls locs hn hW h1 ho hlc hl
    refine lv_iload hx hb d_Pr_power_23 (lv_at hl 0 rfl) ?_
    refine lv_if_lt hx hb d_Pr_power_25 rfl (fun hc => ?_) (fun hc => ?_)
    · rw [Nat.pow_zero, Nat.div_one] at h1
      exact kk w H ls locs hW h1 ho hlc (lv_sub hl [1, 2] rfl)
    · exact absurd (by decide) hc
  | succ n ih =>
    intro w H ls locs hn hW h1 ho hlc hl
    have hl : lv_has ls 5 [(4, .int (nI n)), (0, .ref h), (1, .ref r), (3, .ref x)] := hl
    have hK := hB.1
    have hO := kr_obj hW hP.1 hP.2.1
    have hgr := hP.2.2.2.2.2.2.2.2.2.2.2.1
    have hse := hP.2.2.2.2.2.2.2.2.2.2.1
    have hxl : ¬ kr_L E x := hE.1 x hxS
    have hx1 : x ≠ h + 1 := fun q => hxl (by rw [q]; exact hP.2.2.2.2.2.2.2.2.1.1)
    have hx2 : x ≠ h + 2 := fun q => hxl (by rw [q]; exact hP.2.2.2.2.2.2.2.2.2.1.1)
    have hx4 : x ≠ h + 4 := fun q => hxl (by rw [q]; exact hgr.1)
    refine lv_iload hx hb d_Pr_power_23 (lv_at hl 0 rfl) ?_
    refine lv_if_lt hx hb d_Pr_power_25 rfl (fun hc => ?_) (fun hc => ?_)
    · exact absurd hc (nI_pos (by omega))
    · refine lv_aload_n hx hb d_Pr_power_28 rfl (lv_at hl 1 rfl) ?_
      refine lv_aload_n hx hb d_Pr_power_29 rfl (lv_at hl 1 rfl) ?_
      refine kq_get hx hb hts kt_F_Pr hown hK hO rfl 7 (by decide) kt_w68 rfl d_Pr_power_30 ?_
      refine lv_aload_n hx hb d_Pr_power_33 rfl (lv_at hl 1 rfl) ?_
      refine kq_get hx hb hts kt_F_Pr hown hK hO rfl 7 (by decide) kt_w68 rfl d_Pr_power_34 ?_
      refine lv_aload_n hx hb d_Pr_power_37 rfl (lv_at hl 1 rfl) ?_
      refine kq_get hx hb hts kt_F_Pr hown hK hO rfl 7 (by decide) kt_w68 rfl d_Pr_power_38 ?_
      refine kq_call (va_runV (As := [.ref (h + 4), .ref (h + 4), .ref (h + 4)]) (rest := []) ⟨hx, hb, hml, hown, hts⟩ (c_Pr_product l E h pa ga gw mm G w H hE hP hW (h + 4) (h + 4) (h + 4) hgr (Or.inl hgr) (Or.inl hgr)) (cwV 3 hts (kt_inV kt_w206 kt_w243 kt_w204 kt_w205 kt_w3) rfl rfl rfl (by decide +kernel) ⟨Nat.le_trans (Nat.le_of_ble_eq_true rfl) hRf, Nat.le_trans (Nat.le_of_ble_eq_true rfl) hRl⟩) (kq_preV (kr_st E) (hB) (kq_recv hB.1 hO rfl)) rfl rfl hl.1 rfl (lv_room (Nat.le_of_ble_eq_true rfl)) d_Pr_power_41 ⟨Nat.zero_le _, Nat.zero_le _⟩) (fun v9 H9 L9 hq9 hL9 => ?_)
      obtain ⟨rfl, w9, hW9, e9, ho9⟩ := hq9
      refine W.eq (g2 := F0 m 44 ls []) rfl ?_
      have hO9 := kr_obj hW9 hP.1 hP.2.1
      have hsx := kr_src hE hW9 hB (Or.inr hxS)
      rw [ho9 x hx4 hx1 hx2, ho x hx1 hx2 hx4] at hsx
      have hlc9 : ∀ q ∈ locs ++ L9, q.base = h + 1 ∨ q.base = h + 2 ∨ q.base = h + 3 ∨ q.base = h + 4 := t_lL (free := (fun q => q = h + 1 ∨ q = h + 2 ∨ q = h + 3 ∨ q = h + 4)) hlc (fun q hq => by rcases hL9 q hq with z | z | z <;> simp [z])
      have ho9' : ∀ q, q ≠ h + 1 → q ≠ h + 2 → q ≠ h + 4 → w9 q = v q := fun q q1 q2 q4 => by rw [ho9 q q4 q1 q2]; exact ho q q1 q2 q4
      refine lv_aload_n hx hb d_Pr_power_44 rfl (lv_at hl 3 rfl) ?_
      refine lv_iload hx hb d_Pr_power_45 (lv_at hl 0 rfl) ?_
      refine kq_call (va_runS (As := [.ref x, .int (nI n)]) (rest := []) ⟨hx, hb, hml, hown, hts⟩ (c_Wo_hasBit l H9 x (v x) n (by omega)) (va_cwS 2 hts (kt_inS kt_w246 kt_w244 kt_w245 kt_w6) rfl rfl rfl (by decide +kernel) ⟨Nat.le_trans (Nat.le_of_ble_eq_true rfl) hRf, Nat.le_trans (Nat.le_of_ble_eq_true rfl) hRl⟩) (kq_preS (kq_st_r) (hsx)) rfl rfl hl.1 rfl (lv_room (Nat.le_of_ble_eq_true rfl)) d_Pr_power_47 ⟨Nat.zero_le _, Nat.zero_le _⟩) (fun v8 H8 L8 hq8 hL8 => ?_)
      obtain ⟨rfl, e8⟩ := hq8
      rw [e8]
      clear e8
      refine W.eq (g2 := F0 m 50 ls [.int (kq_z (decide (v x / 2 ^ n % 2 = 1)))]) rfl ?_
      have hlc8 : ∀ q ∈ (locs ++ L9) ++ L8, q.base = h + 1 ∨ q.base = h + 2 ∨ q.base = h + 3 ∨ q.base = h + 4 := t_lL (free := (fun q => q = h + 1 ∨ q = h + 2 ∨ q = h + 3 ∨ q = h + 4)) hlc9 (fun q hq => (hL8 q hq).elim)
      refine lv_if_eq hx hb d_Pr_power_50 rfl (fun hc0 => ?_) (fun hc0 => ?_)
      · have h0 : v x / 2 ^ n % 2 = 0 := by
          have q := kq_z_eq.mp hc0
          omega
        refine lv_iinc (k := 0) (v := kq_dn n) hx hb d_Pr_power_69 hl rfl (kq_dn_dec n) (by decide) rfl (fun ls hl => ?_)
        have hl : lv_has ls 5 [(4, .int (kq_dn n)), (0, .ref h), (1, .ref r), (3, .ref x)] := hl
        refine lv_goto hx hb d_Pr_power_72 rfl ?_
        exact ih w9 H9 ls _ (by omega) hW9 (by rw [e9]; exact kp_pow0 h1 h0) ho9' hlc8 (lv_sub hl [0, 1, 2, 3] rfl)
      · have h0 : v x / 2 ^ n % 2 = 1 := kq_z_ne.mp hc0
        refine lv_aload_n hx hb d_Pr_power_53 rfl (lv_at hl 1 rfl) ?_
        refine lv_aload_n hx hb d_Pr_power_54 rfl (lv_at hl 1 rfl) ?_
        refine kq_get hx hb hts kt_F_Pr hown hK hO9 rfl 7 (by decide) kt_w68 rfl d_Pr_power_55 ?_
        refine lv_aload_n hx hb d_Pr_power_58 rfl (lv_at hl 1 rfl) ?_
        refine kq_get hx hb hts kt_F_Pr hown hK hO9 rfl 7 (by decide) kt_w68 rfl d_Pr_power_59 ?_
        refine lv_aload_n hx hb d_Pr_power_62 rfl (lv_at hl 1 rfl) ?_
        refine kq_get hx hb hts kt_F_Pr hown hK hO9 rfl 6 (by decide) kt_w67 rfl d_Pr_power_63 ?_
        refine kq_call (va_runV (As := [.ref (h + 4), .ref (h + 4), .ref (h + 3)]) (rest := []) ⟨hx, hb, hml, hown, hts⟩ (c_Pr_product l E h pa ga gw mm G w9 H9 hE hP hW9 (h + 4) (h + 4) (h + 3) hgr (Or.inl hgr) (Or.inl hse)) (cwV 3 hts (kt_inV kt_w206 kt_w243 kt_w204 kt_w205 kt_w3) rfl rfl rfl (by decide +kernel) ⟨Nat.le_trans (Nat.le_of_ble_eq_true rfl) hRf, Nat.le_trans (Nat.le_of_ble_eq_true rfl) hRl⟩) (kq_preV (kr_st E) (hB) (kq_recv hB.1 hO9 rfl)) rfl rfl hl.1 rfl (lv_room (Nat.le_of_ble_eq_true rfl)) d_Pr_power_66 ⟨Nat.zero_le _, Nat.zero_le _⟩) (fun v7 H7 L7 hq7 hL7 => ?_)
        obtain ⟨rfl, w7, hW7, e7, ho7⟩ := hq7
        refine W.eq (g2 := F0 m 69 ls []) rfl ?_
        refine lv_iinc (k := 0) (v := kq_dn n) hx hb d_Pr_power_69 hl rfl (kq_dn_dec n) (by decide) rfl (fun ls hl => ?_)
        have hl : lv_has ls 5 [(4, .int (kq_dn n)), (0, .ref h), (1, .ref r), (3, .ref x)] := hl
        refine lv_goto hx hb d_Pr_power_72 rfl ?_
        refine ih w7 H7 ls _ (by omega) hW7 ?_ (fun q q1 q2 q4 => by rw [ho7 q q4 q1 q2]; exact ho9' q q1 q2 q4) (t_lL (free := (fun q => q = h + 1 ∨ q = h + 2 ∨ q = h + 3 ∨ q = h + 4)) hlc8 (fun q hq => by rcases hL7 q hq with z | z | z <;> simp [z])) (lv_sub hl [0, 1, 2, 3] rfl)
        rw [e7, e9, ho9' (h + 3) (by omega) (by omega) (by omega), hsd]
        exact kp_pow1 h1 h0
end
set_option maxHeartbeats 4000000 in
set_option maxRecDepth 100000 in
theorem c_Pr_power (l : Launch) (E : kr_E) (A : Nat → Nat) (h pa ga gw mm G : Nat) (v : Nat → Nat) (H : Heap) (hE : kr_ok E) (hA : kr_A E A) (hP : kr_P E h pa ga gw mm G) (hW : kr_W E v H) (r a x : Nat) (hr : kr_out E r) (ha : kr_in E a) (hxS : kr_S E x) : Met l y_Pr_power w_Pr_power ({ frames := 3, cells := 0, slots := 0, locals := 75 }) (kq_P [.ref h, .ref r, .ref a, .ref x] H (kr_C E A)) (kq_Q (fun o H1 => o = none ∧ ∃ w : Nat → Nat, kr_W E w H1 ∧ w r = v a ^ v x % mm ∧ ∀ q, q ≠ r → q ≠ h + 1 → q ≠ h + 2 → q ≠ h + 3 → q ≠ h + 4 → w q = v q)) 0 0 (fun q => q = r ∨ q = h + 1 ∨ q = h + 2 ∨ q = h + 3 ∨ q = h + 4) := by
  refine Met.ofW (cc := b_Pr_power) (maxL := 5) (ret := none) (by decide) rfl ?_
  intro p e s m args below meth c s₁ B0 hml hv
  obtain ⟨rfl, hH, hC⟩ := hv
  have hx := B0.exec
  have hb := B0.bytes
  have hret := B0.returns
  have hts := atoms_spec (ws := w_Pr_power) B0.pre
  have hown : s.vm.findClass R_Pr = some m.cls := findClass_of_methodNamed B0.named
  have hlocks := B0.notSynchronized
  rw [hH]
  have hl := lv_entry ([.ref h, .ref r, .ref a, .ref x]) (n := 5) (Nat.le_of_ble_eq_true rfl)
  rw [lg_entry_eq]
  generalize (lg_sl ([.ref h, .ref r, .ref a, .ref x]) ++ List.replicate (5 - (lg_sl ([.ref h, .ref r, .ref a, .ref x])).length) Slot.unset).toArray = ls at hl ⊢
  have hl : lv_has ls 5 [(0, .ref h), (1, .ref r), (2, .ref a), (3, .ref x)] := hl
  have hB := hC.1
  have hT := kr_T hE hB
  have hK := hB.1
  have hO := kr_obj hW hP.1 hP.2.1
  have hse := hP.2.2.2.2.2.2.2.2.2.2.1
  have hgr := hP.2.2.2.2.2.2.2.2.2.2.2.1
  have hsa := kr_src hE hW hB ha
  have hla := kr_lt hE hW ha
  have hmm := hP.2.2.2.2.2.1.1
  have hxl : ¬ kr_L E x := hE.1 x hxS
  have hlx := kr_lt hE hW (Or.inr hxS)
  refine lv_aload_n hx hb d_Pr_power_0 rfl (lv_at hl 0 rfl) ?_
  refine kq_get hx hb hts kt_F_Pr hown hK hO rfl 6 (by decide) kt_w67 rfl d_Pr_power_1 ?_
  refine lv_aload_n hx hb d_Pr_power_4 rfl (lv_at hl 2 rfl) ?_
  refine kq_call (va_runS (As := [.ref (h + 3), .ref a]) (rest := []) ⟨hx, hb, hml, hown, hts⟩ (c_Wo_copy l (kr_c E) H (h + 3) a (v (h + 3)) (v a) (kr_row hW hse)) (va_cwS 2 hts (kt_inS kt_w222 kt_w220 kt_w221 kt_w6) rfl rfl rfl (by decide +kernel) ⟨Nat.le_of_ble_eq_true rfl, Nat.le_of_ble_eq_true rfl⟩) (kq_preS (kq_st_A.both kq_st_r) (⟨hT, hsa⟩)) rfl rfl hl.1 rfl (lv_room (Nat.le_of_ble_eq_true rfl)) d_Pr_power_5 ⟨Nat.zero_le _, Nat.zero_le _⟩) (fun v9 H9 L9 hq9 hL9 => ?_)
  obtain ⟨rfl, rfl⟩ := hq9
  refine W.eq (g2 := F0 m 8 ls []) rfl ?_
  have hW1 := kr_put hE hW hse hla
  have hO1 := kr_obj hW1 hP.1 hP.2.1
  have hs1 := kr_src hE hW1 hB (Or.inr hA.2.1.1)
  rw [kr_cst hW1 hA.2.1] at hs1
  refine lv_aload_n hx hb d_Pr_power_8 rfl (lv_at hl 0 rfl) ?_
  refine kq_get hx hb hts kt_F_Pr hown hK hO1 rfl 7 (by decide) kt_w68 rfl d_Pr_power_9 ?_
  refine kq_getsN hx hb (kr_zat hW1 hC.2.2.2.1) hown hC.2.1.1 d_Pr_power_12 ?_
  refine kq_call (va_runS (As := [.ref (h + 4), .ref (A 1)]) (rest := []) ⟨hx, hb, hml, hown, hts⟩ (c_Wo_copy l (kr_c E) _ (h + 4) (A 1) _ 1 (kr_row hW1 hgr)) (va_cwS 2 hts (kt_inS kt_w222 kt_w220 kt_w221 kt_w6) rfl rfl rfl (by decide +kernel) ⟨Nat.le_of_ble_eq_true rfl, Nat.le_of_ble_eq_true rfl⟩) (kq_preS (kq_st_A.both kq_st_r) (⟨hT, hs1⟩)) rfl rfl hl.1 rfl (lv_room (Nat.le_of_ble_eq_true rfl)) d_Pr_power_15 ⟨Nat.zero_le _, Nat.zero_le _⟩) (fun v8 H8 L8 hq8 hL8 => ?_)
  obtain ⟨rfl, rfl⟩ := hq8
  refine W.eq (g2 := F0 m 18 ls []) rfl ?_
  have hW2 := kr_put hE hW1 hgr (show 1 < kw_M 8 by decide +kernel)
  have hx3 : x ≠ h + 3 := fun q => hxl (by rw [q]; exact hse.1)
  have hx4 : x ≠ h + 4 := fun q => hxl (by rw [q]; exact hgr.1)
  have hvx : va_up (va_up v (h + 3) (v a)) (h + 4) 1 x = v x := by rw [kq_up_ne hx4, kq_up_ne hx3]
  refine lv_sipush (v := nI 255) hx hb d_Pr_power_18 (by decide) ?_
  refine lv_istore hx hb d_Pr_power_21 hl (by decide) rfl (fun ls hl => ?_)
  have hl : lv_has ls 5 [(4, .int (nI 255)), (0, .ref h), (1, .ref r), (2, .ref a), (3, .ref x)] := hl
  refine lp_Pr_power hx hb hts hown hml (Nat.le_of_ble_eq_true rfl) (Nat.le_of_ble_eq_true rfl) hE hP hB (v := va_up (va_up v (h + 3) (v a)) (h + 4) 1) (a0 := v a) hxS (by rw [kq_up_ne (by omega), kq_up_at]) (fun w3 H3 ls L3 hW3 h3 ho3 hL3 hl => ?_) 256 _ _ ls _ (Nat.le_refl 256) hW2 (by rw [kq_up_at, hvx, Nat.div_eq_of_lt (by rw [kw_M_8] at hlx; omega), Nat.pow_zero, Nat.mod_eq_of_lt (by omega)]) (fun _ _ _ _ => rfl) ?_ (lv_sub hl [0, 1, 2, 4] rfl)
  · have hO3 := kr_obj hW3 hP.1 hP.2.1
    have hsg := kr_src hE hW3 hB (Or.inl hgr)
    have hlg := kr_lt hE hW3 (Or.inl hgr)
    rw [hvx] at h3
    refine lv_aload_n hx hb d_Pr_power_75 rfl (lv_at hl 1 rfl) ?_
    refine lv_aload_n hx hb d_Pr_power_76 rfl (lv_at hl 0 rfl) ?_
    refine kq_get hx hb hts kt_F_Pr hown hK hO3 rfl 7 (by decide) kt_w68 rfl d_Pr_power_77 ?_
    refine kq_call (va_runS (As := [.ref r, .ref (h + 4)]) (rest := []) ⟨hx, hb, hml, hown, hts⟩ (c_Wo_copy l (kr_c E) H3 r (h + 4) (w3 r) (w3 (h + 4)) (kr_row hW3 hr)) (va_cwS 2 hts (kt_inS kt_w222 kt_w220 kt_w221 kt_w6) rfl rfl rfl (by decide +kernel) ⟨Nat.le_of_ble_eq_true rfl, Nat.le_of_ble_eq_true rfl⟩) (kq_preS (kq_st_A.both kq_st_r) (⟨hT, hsg⟩)) rfl rfl hl.1 rfl (lv_room (Nat.le_of_ble_eq_true rfl)) d_Pr_power_80 ⟨Nat.zero_le _, Nat.zero_le _⟩) (fun v7 H7 L7 hq7 hL7 => ?_)
    obtain ⟨rfl, rfl⟩ := hq7
    refine W.eq (g2 := F0 m 83 ls []) rfl ?_
    have hW4 := kr_put hE hW3 hr hlg
    have hlf : ∀ q ∈ L3 ++ L7, q.base = r ∨ q.base = h + 1 ∨ q.base = h + 2 ∨ q.base = h + 3 ∨ q.base = h + 4 := t_lL (free := (fun q => q = r ∨ q = h + 1 ∨ q = h + 2 ∨ q = h + 3 ∨ q = h + 4)) (fun q z => Or.inr (hL3 q z)) (fun q z => Or.inl (hL7 q z))
    refine W.vret hx hb hret (fun t ht _ => ⟨_, rfl, rfl, _, by rw [ht]; exact hW4, ?_, fun q q0 q1 q2 q3 q4 => ?_⟩) hlf d_Pr_power_83
    · rw [kq_up_at, h3]
    · rw [kq_up_ne q0, ho3 q q1 q2 q4, kq_up_ne q4, kq_up_ne q3]
  · exact t_lL (free := (fun q => q = h + 1 ∨ q = h + 2 ∨ q = h + 3 ∨ q = h + 4)) (t_lL (free := (fun q => q = h + 1 ∨ q = h + 2 ∨ q = h + 3 ∨ q = h + 4)) (fun q h => by cases h) (fun q z => Or.inr (Or.inr (Or.inl (hL9 q z))))) (fun q z => Or.inr (Or.inr (Or.inr (hL8 q z))))
theorem d_Pr_inverse_0 : decode b_Pr_inverse 0 = .ok (.aload_n 0, 1) := by decide +kernel
theorem d_Pr_inverse_1 : decode b_Pr_inverse 1 = .ok (.getfield 24, 3) := by decide +kernel
theorem d_Pr_inverse_4 : decode b_Pr_inverse 4 = .ok (.aload_n 2, 1) := by decide +kernel
theorem d_Pr_inverse_5 : decode b_Pr_inverse 5 = .ok (.invokestatic 71, 3) := by decide +kernel
theorem d_Pr_inverse_8 : decode b_Pr_inverse 8 = .ok (.aload_n 0, 1) := by decide +kernel
theorem d_Pr_inverse_9 : decode b_Pr_inverse 9 = .ok (.aload_n 0, 1) := by decide +kernel
theorem d_Pr_inverse_10 : decode b_Pr_inverse 10 = .ok (.getfield 24, 3) := by decide +kernel
theorem d_Pr_inverse_13 : decode b_Pr_inverse 13 = .ok (.invokevirtual 53, 3) := by decide +kernel
theorem d_Pr_inverse_16 : decode b_Pr_inverse 16 = .ok (.aload_n 0, 1) := by decide +kernel
theorem d_Pr_inverse_17 : decode b_Pr_inverse 17 = .ok (.getfield 24, 3) := by decide +kernel
theorem d_Pr_inverse_20 : decode b_Pr_inverse 20 = .ok (.invokestatic 86, 3) := by decide +kernel
theorem d_Pr_inverse_23 : decode b_Pr_inverse 23 = .ok (.ifCond .eq 5, 3) := by decide +kernel
theorem d_Pr_inverse_26 : decode b_Pr_inverse 26 = .ok (.iconst 0, 1) := by decide +kernel
theorem d_Pr_inverse_27 : decode b_Pr_inverse 27 = .ok (.ireturn, 1) := by decide +kernel
theorem d_Pr_inverse_28 : decode b_Pr_inverse 28 = .ok (.aload_n 0, 1) := by decide +kernel
theorem d_Pr_inverse_29 : decode b_Pr_inverse 29 = .ok (.aload_n 1, 1) := by decide +kernel
theorem d_Pr_inverse_30 : decode b_Pr_inverse 30 = .ok (.aload_n 0, 1) := by decide +kernel
theorem d_Pr_inverse_31 : decode b_Pr_inverse 31 = .ok (.getfield 24, 3) := by decide +kernel
theorem d_Pr_inverse_34 : decode b_Pr_inverse 34 = .ok (.aload_n 0, 1) := by decide +kernel
theorem d_Pr_inverse_35 : decode b_Pr_inverse 35 = .ok (.getfield 42, 3) := by decide +kernel
theorem d_Pr_inverse_38 : decode b_Pr_inverse 38 = .ok (.invokevirtual 90, 3) := by decide +kernel
theorem d_Pr_inverse_41 : decode b_Pr_inverse 41 = .ok (.iconst 1, 1) := by decide +kernel
theorem d_Pr_inverse_42 : decode b_Pr_inverse 42 = .ok (.ireturn, 1) := by decide +kernel
set_option maxHeartbeats 4000000 in
set_option maxRecDepth 100000 in
theorem c_Pr_inverse (l : Launch) (E : kr_E) (A : Nat → Nat) (h pa ga gw mm G : Nat) (v : Nat → Nat) (H : Heap) (hE : kr_ok E) (hA : kr_A E A) (hP : kr_P E h pa ga gw mm G) (hW : kr_W E v H) (r a : Nat) (hr : kr_out E r) (ha : kr_in E a) (hr5 : r ≠ h + 5) : Met l y_Pr_inverse w_Pr_inverse ({ frames := 4, cells := 0, slots := 0, locals := 99 }) (kq_P [.ref h, .ref r, .ref a] H (kr_C E A)) (kq_Q (fun o H1 => o = some (.int (kq_z (decide (¬ v a % mm = 0)))) ∧ ∃ w : Nat → Nat, kr_W E w H1 ∧ w r = (if v a % mm = 0 then v r else kf_inv mm (v a % mm)) ∧ ∀ q, q ≠ r → q ≠ h + 1 → q ≠ h + 2 → q ≠ h + 3 → q ≠ h + 4 → q ≠ h + 5 → w q = v q)) 0 0 (fun q => q = r ∨ q = h + 1 ∨ q = h + 2 ∨ q = h + 3 ∨ q = h + 4 ∨ q = h + 5) := by
  refine Met.ofW (cc := b_Pr_inverse) (maxL := 3) (ret := (some .boolean)) (by decide) rfl ?_
  intro p e s m args below meth c s₁ B0 hml hv
  obtain ⟨rfl, hH, hC⟩ := hv
  have hx := B0.exec
  have hb := B0.bytes
  have hret := B0.returns
  have hts := atoms_spec (ws := w_Pr_inverse) B0.pre
  have hown : s.vm.findClass R_Pr = some m.cls := findClass_of_methodNamed B0.named
  have hlocks := B0.notSynchronized
  rw [hH]
  have hl := lv_entry ([.ref h, .ref r, .ref a]) (n := 3) (Nat.le_of_ble_eq_true rfl)
  rw [lg_entry_eq]
  generalize (lg_sl ([.ref h, .ref r, .ref a]) ++ List.replicate (3 - (lg_sl ([.ref h, .ref r, .ref a])).length) Slot.unset).toArray = ls at hl ⊢
  have hl : lv_has ls 3 [(0, .ref h), (1, .ref r), (2, .ref a)] := hl
  have hB := hC.1
  have hT := kr_T hE hB
  have hK := hB.1
  have hO := kr_obj hW hP.1 hP.2.1
  have htr := hP.2.2.2.2.2.2.2.2.2.2.2.2
  have hsa := kr_src hE hW hB ha
  have hla := kr_lt hE hW ha
  refine lv_aload_n hx hb d_Pr_inverse_0 rfl (lv_at hl 0 rfl) ?_
  refine kq_get hx hb hts kt_F_Pr hown hK hO rfl 8 (by decide) kt_w69 rfl d_Pr_inverse_1 ?_
  refine lv_aload_n hx hb d_Pr_inverse_4 rfl (lv_at hl 2 rfl) ?_
  refine kq_call (va_runS (As := [.ref (h + 5), .ref a]) (rest := []) ⟨hx, hb, hml, hown, hts⟩ (c_Wo_copy l (kr_c E) H (h + 5) a (v (h + 5)) (v a) (kr_row hW htr)) (va_cwS 2 hts (kt_inS kt_w222 kt_w220 kt_w221 kt_w6) rfl rfl rfl (by decide +kernel) ⟨Nat.le_of_ble_eq_true rfl, Nat.le_of_ble_eq_true rfl⟩) (kq_preS (kq_st_A.both kq_st_r) (⟨hT, hsa⟩)) rfl rfl hl.1 rfl (lv_room (Nat.le_of_ble_eq_true rfl)) d_Pr_inverse_5 ⟨Nat.zero_le _, Nat.zero_le _⟩) (fun v9 H9 L9 hq9 hL9 => ?_)
  obtain ⟨rfl, rfl⟩ := hq9
  refine W.eq (g2 := F0 m 8 ls []) rfl ?_
  have hW1 := kr_put hE hW htr hla
  have hO1 := kr_obj hW1 hP.1 hP.2.1
  refine lv_aload_n hx hb d_Pr_inverse_8 rfl (lv_at hl 0 rfl) ?_
  refine lv_aload_n hx hb d_Pr_inverse_9 rfl (lv_at hl 0 rfl) ?_
  refine kq_get hx hb hts kt_F_Pr hown hK hO1 rfl 8 (by decide) kt_w69 rfl d_Pr_inverse_10 ?_
  refine kq_call (va_runV (As := [.ref (h + 5)]) (rest := []) ⟨hx, hb, hml, hown, hts⟩ (c_Pr_trim l E h pa ga gw mm G _ _ hE hP hW1 (h + 5) htr) (cwV 1 hts (kt_inV kt_w184 kt_w181 kt_w182 kt_w183 kt_w3) rfl rfl rfl (by decide +kernel) ⟨Nat.le_of_ble_eq_true rfl, Nat.le_of_ble_eq_true rfl⟩) (kq_preV (kr_st E) (hB) (kq_recv hB.1 hO1 rfl)) rfl rfl hl.1 rfl (lv_room (Nat.le_of_ble_eq_true rfl)) d_Pr_inverse_13 ⟨Nat.zero_le _, Nat.zero_le _⟩) (fun v8 H8 L8 hq8 hL8 => ?_)
  obtain ⟨rfl, hW2⟩ := hq8
  refine W.eq (g2 := F0 m 16 ls []) rfl ?_
  have hO2 := kr_obj hW2 hP.1 hP.2.1
  have hst := kr_src hE hW2 hB (Or.inl htr)
  have hlt := kr_lt hE hW2 (Or.inl htr)
  have hvt : va_up (va_up v (h + 5) (v a)) (h + 5) (va_up v (h + 5) (v a) (h + 5) % mm) (h + 5) = v a % mm := by rw [kq_up_at, kq_up_at]
  rw [hvt] at hst hlt
  have ho2 : ∀ q, q ≠ h + 5 → va_up (va_up v (h + 5) (v a)) (h + 5) (va_up v (h + 5) (v a) (h + 5) % mm) q = v q := fun q hq => by rw [kq_up_ne hq, kq_up_ne hq]
  have hl2 : ∀ q ∈ (([] : List Loc) ++ L9) ++ L8, q.base = h + 5 := t_lL (free := fun q => q = h + 5) (t_lL (free := fun q => q = h + 5) (fun q h => by cases h) hL9) hL8
  generalize va_up (va_up v (h + 5) (v a)) (h + 5) (va_up v (h + 5) (v a) (h + 5) % mm) = v2 at *
  refine lv_aload_n hx hb d_Pr_inverse_16 rfl (lv_at hl 0 rfl) ?_
  refine kq_get hx hb hts kt_F_Pr hown hK hO2 rfl 8 (by decide) kt_w69 rfl d_Pr_inverse_17 ?_
  refine kq_call (va_runS (As := [.ref (h + 5)]) (rest := []) ⟨hx, hb, hml, hown, hts⟩ (c_Wo_isZero l H8 (h + 5) (v a % mm) hlt) (va_cwS 1 hts (kt_inS kt_w236 kt_w234 kt_w235 kt_w6) rfl rfl rfl (by decide +kernel) ⟨Nat.le_of_ble_eq_true rfl, Nat.le_of_ble_eq_true rfl⟩) (kq_preS (kq_st_r) (hst)) rfl rfl hl.1 rfl (lv_room (Nat.le_of_ble_eq_true rfl)) d_Pr_inverse_20 ⟨Nat.zero_le _, Nat.zero_le _⟩) (fun v7 H7 L7 hq7 hL7 => ?_)
  obtain ⟨rfl, e7⟩ := hq7
  rw [e7]
  clear e7
  refine W.eq (g2 := F0 m 23 ls [.int (kq_z (decide (v a % mm = 0)))]) rfl ?_
  refine lv_if_eq hx hb d_Pr_inverse_23 rfl (fun hc => ?_) (fun hc => ?_)
  · have hz : ¬ v a % mm = 0 := kq_z_eq.mp hc
    have hip := hP.2.2.2.2.2.2.2.1
    refine lv_aload_n hx hb d_Pr_inverse_28 rfl (lv_at hl 0 rfl) ?_
    refine lv_aload_n hx hb d_Pr_inverse_29 rfl (lv_at hl 1 rfl) ?_
    refine lv_aload_n hx hb d_Pr_inverse_30 rfl (lv_at hl 0 rfl) ?_
    refine kq_get hx hb hts kt_F_Pr hown hK hO2 rfl 8 (by decide) kt_w69 rfl d_Pr_inverse_31 ?_
    refine lv_aload_n hx hb d_Pr_inverse_34 rfl (lv_at hl 0 rfl) ?_
    refine kq_get hx hb hts kt_F_Pr hown hK hO2 rfl 3 (by decide) kt_w64 rfl d_Pr_inverse_35 ?_
    refine kq_call (va_runV (As := [.ref r, .ref (h + 5), .ref (h + 6)]) (rest := []) ⟨hx, hb, hml, hown, hts⟩ (c_Pr_power l E A h pa ga gw mm G v2 H8 hE hA hP hW2 r (h + 5) (h + 6) hr (Or.inl htr) hip.1) (cwV 3 hts (kt_inV kt_w240 kt_w237 kt_w238 kt_w239 kt_w3) rfl rfl rfl (by decide +kernel) ⟨Nat.le_of_ble_eq_true rfl, Nat.le_of_ble_eq_true rfl⟩) (kq_p2V (kr_C_s2 E A) (hC) (kq_recv hB.1 hO2 rfl)) rfl rfl hl.1 rfl (lv_room (Nat.le_of_ble_eq_true rfl)) d_Pr_inverse_38 ⟨Nat.zero_le _, Nat.zero_le _⟩) (fun v6 H6 L6 hq6 hL6 => ?_)
    obtain ⟨rfl, w6, hW6, e6, ho6⟩ := hq6
    refine W.eq (g2 := F0 m 41 ls []) rfl ?_
    refine lv_iconst (v := nI 1) hx hb d_Pr_inverse_41 (by decide) ?_
    refine W.zret hx hb hret rfl (fun t ht _ => ⟨_, rfl, by rw [kq_z_t hz], w6, by rw [ht]; exact hW6, ?_, fun q q0 q1 q2 q3 q4 q5 => ?_⟩) (t_lL (free := (fun q => q = r ∨ q = h + 1 ∨ q = h + 2 ∨ q = h + 3 ∨ q = h + 4 ∨ q = h + 5)) (t_lL (free := (fun q => q = r ∨ q = h + 1 ∨ q = h + 2 ∨ q = h + 3 ∨ q = h + 4 ∨ q = h + 5)) (fun q z => by simp [hl2 q z]) (fun q z => (hL7 q z).elim)) (fun q z => by rcases hL6 q z with z | z | z | z | z <;> simp [z])) d_Pr_inverse_42
    · rw [if_neg hz, e6, hvt, kr_cst hW2 hip]
      rfl
    · rw [ho6 q q0 q1 q2 q3 q4]
      exact ho2 q q5
  · have hz : v a % mm = 0 := kq_z_ne.mp hc
    refine lv_iconst (v := nI 0) hx hb d_Pr_inverse_26 (by decide) ?_
    refine W.zret hx hb hret rfl (fun t ht _ => ⟨_, rfl, by rw [kq_z_f (fun q => q hz)], v2, by rw [ht]; exact hW2, ?_, fun q q0 q1 q2 q3 q4 q5 => ho2 q q5⟩) (t_lL (free := (fun q => q = r ∨ q = h + 1 ∨ q = h + 2 ∨ q = h + 3 ∨ q = h + 4 ∨ q = h + 5)) (fun q z => by simp [hl2 q z]) (fun q z => (hL7 q z).elim)) d_Pr_inverse_27
    rw [if_pos hz]
    exact ho2 r hr5
