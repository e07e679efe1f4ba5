/-! The law: its loop (own rows). -/
theorem d_law_16 : decode code 16 = .ok (.iconst 0, 1) := by decide +kernel
theorem d_law_17 : decode code 17 = .ok (.istore_n 3, 1) := by decide +kernel
theorem d_law_18 : decode code 18 = .ok (.iload_n 3, 1) := by decide +kernel
theorem d_law_19 : decode code 19 = .ok (.aload_n 0, 1) := by decide +kernel
theorem d_law_20 : decode code 20 = .ok (.arraylength, 1) := by decide +kernel
theorem d_law_21 : decode code 21 = .ok (.iconst 5, 1) := by decide +kernel
theorem d_law_22 : decode code 22 = .ok (.isub, 1) := by decide +kernel
theorem d_law_23 : decode code 23 = .ok (.if_icmp .gt 778, 3) := by decide +kernel
theorem d_law_26 : decode code 26 = .ok (.aload_n 0, 1) := by decide +kernel
theorem d_law_27 : decode code 27 = .ok (.iload_n 3, 1) := by decide +kernel
theorem d_law_28 : decode code 28 = .ok (.iaload, 1) := by decide +kernel
theorem d_law_29 : decode code 29 = .ok (.bipush 15, 2) := by decide +kernel
theorem d_law_31 : decode code 31 = .ok (.iand, 1) := by decide +kernel
theorem d_law_32 : decode code 32 = .ok (.tableswitch 763 0 14 #[76, 119, 152, 219, 286, 353, 412, 445, 466, 487, 530, 589, 630, 671, 730], 76) := by decide +kernel
theorem d_law_795 : decode code 795 = .ok (.iinc 3 5, 3) := by decide +kernel
theorem d_law_798 : decode code 798 = .ok (.goto (-780), 3) := by decide +kernel
theorem d_law_801 : decode code 801 = .ok (.iconst 1, 1) := by decide +kernel
theorem d_law_802 : decode code 802 = .ok (.ireturn, 1) := by decide +kernel
def R_law : String := "KeyCurveLaw"
def lw_P (b : Addr) (xs : List Int32) (args : Array Value) (s : State) : Prop := args = #[.ref b] ∧ s.IntsAt b xs ∧ xs.length ≤ 2560 ∧ (Jvm.Cond.and given_1 narrow_1).before args s = true
def lw_Q (_ : Array Value) (s : State) (o : Outcome) (t : State) : Prop := o = .returned (some (.int 1)) ∧ Framed s o t [] 600000 7302249
def lw_Z (below : List Frame) (a : Array Value) (s : State) : State → Prop := fun t => ∃ o, t.status = .running ∧ Ended t below o ∧ lw_Q a s o t
/-- the law's own end, with 1 on the stack, nothing written that was there before, its room as the claim has it -/
theorem lw_ret {p : Program} {l : Launch} {e : Env} {s : State} {m : MethodId} {below : List Frame} {meth : Method} {c : Code} {b : Nat} (hx : p.tables.exec = Jvm.exec) (hb : c.code = code) (hr : meth.sig.returnType = ret) (hlocks : meth.locks = false) {pc : Nat} {H : Heap} {ls : Array Slot} (hdg : decode code pc = .ok (.ireturn, 1)) : W p l e room_1 s m #[Value.ref b] below meth c H [] 600000 7302249 (lw_Z below #[Value.ref b] s) (F0 m pc ls [.int 1]) := by
  intro T hT X
  obtain ⟨fs, hret, hrun, hended, hW, hframe⟩ := X.leave (v := some (.int 1)) (hlocks := hlocks) (fun h => by rw [hr] at h; cases h)
  have hmeth' : T.vm.method? m = some meth := X.method'
  refine ⟨T.setFrames fs, ?_, .returned (some (.int 1)), hrun, hended, rfl, ⟨_, rfl⟩, hW, hframe⟩
  jvm_step X.here [X.here.top, hx, hb, hdg, hmeth', hr, ret, narrow_b1]
  (try refine ⟨rfl, ?_⟩); (try refine ⟨rfl, ?_⟩)
  first | (intro acts; rw [hret _ acts rfl rfl rfl]) | rw [hret _ _ rfl rfl rfl]
  exact Steps.refl _
/-- what holds at the law's entry: the machine, the code, the tables' words (any of lw_tbl by 'hts w (by decide +kernel)'), the script of L ints xs at the cell b, what the Statement gives of the start (any of its parts by flat_of_before) -/
def lw_At (p : Program) (s : State) (m : MethodId) (meth : Method) (c : Code) (b L : Nat) (xs : Nat → Int32) : Prop :=
  p.tables.exec = Jvm.exec ∧ c.code = code ∧ meth.sig.returnType = ret ∧ c.maxLocals = 4 ∧ s.vm.findClass R_law = some m.cls ∧ (∀ w ∈ lw_tbl, w.before #[Value.ref b] s = true) ∧ va_X b L xs s s.heap ∧ b < s.heap.size ∧ meth.locks = false ∧ (Jvm.Cond.and given_1 narrow_1).before #[Value.ref b] s = true
section
variable {p : Program} {l : Launch} {e : Env} {s : State} {m : MethodId} {below : List Frame} {meth : Method} {c : Code}
set_option maxHeartbeats 4000000 in
set_option maxRecDepth 100000 in
theorem ll_law (hx : p.tables.exec = Jvm.exec) (hb : c.code = code) (hml : c.maxLocals = 4) (hown : s.vm.findClass "KeyCurveLaw" = some m.cls) {b : Nat} (hts : ∀ w ∈ kl_y :: kt_all, w.before #[Value.ref b] s = true)
    {o mo L : Nat} {A B : Nat → Nat} {xs : Nat → Int32} {cL cR cS cI cII cZ : ClassId} {D : va_G} {tys : List (ClassId × FieldType)} {tL tR tS tI tII tZ : Nat} {H0 : Heap} (hG : kl_G o mo b L A B xs cL cR cS cI cII cZ D tys tL tR tS tI tII tZ H0 s) (hr : meth.sig.returnType = ret) (hlocks : meth.locks = false) :
    ∀ (n i : Nat) (H : Heap) (v w : Nat → Nat) (bs cs : Nat → Bool) (far : Bool) (ls : Array Slot), L < i + 5 * (n + 1) → i ≤ 2565 → kl_I o mo A B cL cR cS cI cII cZ D H0 H v w bs cs far → lv_has ls 4 [(3, .int (nI i)), (2, .ref mo), (1, .ref o), (0, .ref b)] → W p l e room_1 s m #[Value.ref b] below meth c H [] 77 611 (lw_Z below #[Value.ref b] s) (F0 m 18 ls []) := by
  have hX := hG.2.2.2.2.2.2.2.2.2.2.2.2.2.2.2.2
  have hL := hG.2.2.1
  have hbo := hG.2.2.2.1
  intro n
  induction n with
  | zero =>
    intro i H v w bs cs far ls hn hi hI hl
    have hX1 := hX.kept (hI.2.1 b hbo)
    have hS := kl_kr hX1
    refine lv_iload_n hx hb d_law_18 rfl (lv_at hl 0 rfl) ?_
    refine lv_aload_n hx hb d_law_19 rfl (lv_at hl 3 rfl) ?_
    refine kl_alen hx hb hX1 d_law_20 ?_
    refine lv_iconst (v := nI 5) hx hb d_law_21 (by decide) ?_
    refine lv_isub hx hb d_law_22 ?_
    refine lv_icmp_gt hx hb d_law_23 rfl (fun hc => ?_) (fun hc => ?_)
    · refine lv_iconst (v := nI 1) hx hb d_law_801 (by decide) ?_
      refine kq_ri (show nI 1 = 1 from rfl) ?_
      refine W.widen (k := 600000) (n := 7302249) (by decide) (by decide) ?_
      exact lw_ret hx hb hr hlocks d_law_802
    · exact absurd ((kl_cmp hL (by omega)).mpr (by omega)) hc
  | succ n ih =>
    intro i H v w bs cs far ls hn hi hI hl
    have hX1 := hX.kept (hI.2.1 b hbo)
    have hS := kl_kr hX1
    refine lv_iload_n hx hb d_law_18 rfl (lv_at hl 0 rfl) ?_
    refine lv_aload_n hx hb d_law_19 rfl (lv_at hl 3 rfl) ?_
    refine kl_alen hx hb hX1 d_law_20 ?_
    refine lv_iconst (v := nI 5) hx hb d_law_21 (by decide) ?_
    refine lv_isub hx hb d_law_22 ?_
    refine lv_icmp_gt hx hb d_law_23 rfl (fun hc => ?_) (fun hc => ?_)
    · refine lv_iconst (v := nI 1) hx hb d_law_801 (by decide) ?_
      refine kq_ri (show nI 1 = 1 from rfl) ?_
      refine W.widen (k := 600000) (n := 7302249) (by decide) (by decide) ?_
      exact lw_ret hx hb hr hlocks d_law_802
    · have hi5 : i + 5 ≤ L := by
        by_cases hz : L < i + 5
        · exact absurd ((kl_cmp hL (by omega)).mpr hz) hc
        · omega
      refine lv_aload_n hx hb d_law_26 rfl (lv_at hl 3 rfl) ?_
      refine lv_iload_n hx hb d_law_27 rfl (lv_at hl 0 rfl) ?_
      refine kq_iald hx hb hS (show i < L by omega) (by omega) rfl d_law_28 ?_
      refine lv_bipush (v := nI 15) hx hb d_law_29 (by decide) ?_
      refine lv_iand hx hb d_law_31 ?_
      refine kq_ri (show (xs i) &&& (nI 15) = nI ((xs i).toBitVec.toNat % 16) from kl_and15 (xs i)) ?_
      have kk : ∀ (H : Heap) (v w : Nat → Nat) (bs cs : Nat → Bool) (far : Bool), kl_I o mo A B cL cR cS cI cII cZ D H0 H v w bs cs far → W p l e room_1 s m #[Value.ref b] below meth c H [] 77 611 (lw_Z below #[Value.ref b] s) (F0 m 795 ls []) := by
        intro H v w bs cs far hI
        refine lv_iinc (k := 0) (v := nI (i + 5)) hx hb d_law_795 hl rfl (nI_add i 5) (by decide) rfl (fun ls hl => ?_)
        have hl : lv_has ls 4 [(3, .int (nI (i + 5))), (2, .ref mo), (1, .ref o), (0, .ref b)] := hl
        refine lv_goto hx hb d_law_798 rfl ?_
        exact ih (i + 5) H v w bs cs far ls (by omega) (by omega) hI (lv_sub hl [0, 1, 2, 3] rfl)
      have hk : (xs i).toBitVec.toNat % 16 < 16 := Nat.mod_lt _ (by decide)
      generalize (xs i).toBitVec.toNat % 16 = k at hk ⊢
      rcases (show k = 0 ∨ k = 1 ∨ k = 2 ∨ k = 3 ∨ k = 4 ∨ k = 5 ∨ k = 6 ∨ k = 7 ∨ k = 8 ∨ k = 9 ∨ k = 10 ∨ k = 11 ∨ k = 12 ∨ k = 13 ∨ k = 14 ∨ k = 15 by omega) with rfl | rfl | rfl | rfl | rfl | rfl | rfl | rfl | rfl | rfl | rfl | rfl | rfl | rfl | rfl | rfl
      · refine lv_tableIn hx hb d_law_32 (by decide) (by decide) (off := 76) (tgt := 108) (by decide) rfl ?_
        exact lc_set hx hb hml hown hts hG hI hi5 hl kk
      · refine lv_tableIn hx hb d_law_32 (by decide) (by decide) (off := 119) (tgt := 151) (by decide) rfl ?_
        exact lc_get hx hb hml hown hts hG hI hi5 hl kk
      · refine lv_tableIn hx hb d_law_32 (by decide) (by decide) (off := 152) (tgt := 184) (by decide) rfl ?_
        exact lc_add hx hb hml hown hts hG hI hi5 hl kk
      · refine lv_tableIn hx hb d_law_32 (by decide) (by decide) (off := 219) (tgt := 251) (by decide) rfl ?_
        exact lc_subtract hx hb hml hown hts hG hI hi5 hl kk
      · refine lv_tableIn hx hb d_law_32 (by decide) (by decide) (off := 286) (tgt := 318) (by decide) rfl ?_
        exact lc_multiply hx hb hml hown hts hG hI hi5 hl kk
      · refine lv_tableIn hx hb d_law_32 (by decide) (by decide) (off := 353) (tgt := 385) (by decide) rfl ?_
        exact lc_invert hx hb hml hown hts hG hI hi5 hl kk
      · refine lv_tableIn hx hb d_law_32 (by decide) (by decide) (off := 412) (tgt := 444) (by decide) rfl ?_
        exact lc_root hx hb hml hown hts hG hI hi5 hl kk
      · refine lv_tableIn hx hb d_law_32 (by decide) (by decide) (off := 445) (tgt := 477) (by decide) rfl ?_
        exact lc_base hx hb hml hown hts hG hI hi5 hl kk
      · refine lv_tableIn hx hb d_law_32 (by decide) (by decide) (off := 466) (tgt := 498) (by decide) rfl ?_
        exact lc_none hx hb hml hown hts hG hI hi5 hl kk
      · refine lv_tableIn hx hb d_law_32 (by decide) (by decide) (off := 487) (tgt := 519) (by decide) rfl ?_
        exact lc_point hx hb hml hown hts hG hI hi5 hl kk
      · refine lv_tableIn hx hb d_law_32 (by decide) (by decide) (off := 530) (tgt := 562) (by decide) rfl ?_
        exact lc_lift hx hb hml hown hts hG hI hi5 hl kk
      · refine lv_tableIn hx hb d_law_32 (by decide) (by decide) (off := 589) (tgt := 621) (by decide) rfl ?_
        exact lc_plus hx hb hml hown hts hG hI hi5 hl kk
      · refine lv_tableIn hx hb d_law_32 (by decide) (by decide) (off := 630) (tgt := 662) (by decide) rfl ?_
        exact lc_times hx hb hml hown hts hG hI hi5 hl kk
      · refine lv_tableIn hx hb d_law_32 (by decide) (by decide) (off := 671) (tgt := 703) (by decide) rfl ?_
        exact lc_take hx hb hml hown hts hG hI hi5 hl kk
      · refine lv_tableIn hx hb d_law_32 (by decide) (by decide) (off := 730) (tgt := 762) (by decide) rfl ?_
        exact lc_same hx hb hml hown hts hG hI hi5 hl kk
      · refine lv_tableOut hx hb d_law_32 (tgt := 795) (Or.inr (by decide)) rfl ?_
        exact kk _ _ _ _ _ _ hI
end
