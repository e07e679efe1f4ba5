/-! The law: its calls, last (own rows). -/
theorem d_law_562 : decode code 562 = .ok (.aload_n 1, 1) := by decide +kernel
theorem d_law_563 : decode code 563 = .ok (.aload_n 0, 1) := by decide +kernel
theorem d_law_564 : decode code 564 = .ok (.iload_n 3, 1) := by decide +kernel
theorem d_law_565 : decode code 565 = .ok (.iconst 1, 1) := by decide +kernel
theorem d_law_566 : decode code 566 = .ok (.iadd, 1) := by decide +kernel
theorem d_law_567 : decode code 567 = .ok (.iaload, 1) := by decide +kernel
theorem d_law_568 : decode code 568 = .ok (.aload_n 0, 1) := by decide +kernel
theorem d_law_569 : decode code 569 = .ok (.iload_n 3, 1) := by decide +kernel
theorem d_law_570 : decode code 570 = .ok (.iconst 2, 1) := by decide +kernel
theorem d_law_571 : decode code 571 = .ok (.iadd, 1) := by decide +kernel
theorem d_law_572 : decode code 572 = .ok (.iaload, 1) := by decide +kernel
theorem d_law_573 : decode code 573 = .ok (.aload_n 0, 1) := by decide +kernel
theorem d_law_574 : decode code 574 = .ok (.iload_n 3, 1) := by decide +kernel
theorem d_law_575 : decode code 575 = .ok (.iconst 3, 1) := by decide +kernel
theorem d_law_576 : decode code 576 = .ok (.iadd, 1) := by decide +kernel
theorem d_law_577 : decode code 577 = .ok (.iaload, 1) := by decide +kernel
theorem d_law_578 : decode code 578 = .ok (.ifCond .eq 7, 3) := by decide +kernel
theorem d_law_581 : decode code 581 = .ok (.iconst 1, 1) := by decide +kernel
theorem d_law_582 : decode code 582 = .ok (.goto 4, 3) := by decide +kernel
theorem d_law_585 : decode code 585 = .ok (.iconst 0, 1) := by decide +kernel
theorem d_law_586 : decode code 586 = .ok (.invokevirtual 60, 3) := by decide +kernel
theorem d_law_589 : decode code 589 = .ok (.aload_n 2, 1) := by decide +kernel
theorem d_law_590 : decode code 590 = .ok (.aload_n 0, 1) := by decide +kernel
theorem d_law_591 : decode code 591 = .ok (.iload_n 3, 1) := by decide +kernel
theorem d_law_592 : decode code 592 = .ok (.iconst 1, 1) := by decide +kernel
theorem d_law_593 : decode code 593 = .ok (.iadd, 1) := by decide +kernel
theorem d_law_594 : decode code 594 = .ok (.iaload, 1) := by decide +kernel
theorem d_law_595 : decode code 595 = .ok (.aload_n 0, 1) := by decide +kernel
theorem d_law_596 : decode code 596 = .ok (.iload_n 3, 1) := by decide +kernel
theorem d_law_597 : decode code 597 = .ok (.iconst 2, 1) := by decide +kernel
theorem d_law_598 : decode code 598 = .ok (.iadd, 1) := by decide +kernel
theorem d_law_599 : decode code 599 = .ok (.iaload, 1) := by decide +kernel
theorem d_law_600 : decode code 600 = .ok (.aload_n 0, 1) := by decide +kernel
theorem d_law_601 : decode code 601 = .ok (.iload_n 3, 1) := by decide +kernel
theorem d_law_602 : decode code 602 = .ok (.iconst 3, 1) := by decide +kernel
theorem d_law_603 : decode code 603 = .ok (.iadd, 1) := by decide +kernel
theorem d_law_604 : decode code 604 = .ok (.iaload, 1) := by decide +kernel
theorem d_law_605 : decode code 605 = .ok (.ifCond .eq 7, 3) := by decide +kernel
theorem d_law_608 : decode code 608 = .ok (.iconst 1, 1) := by decide +kernel
theorem d_law_609 : decode code 609 = .ok (.goto 4, 3) := by decide +kernel
theorem d_law_612 : decode code 612 = .ok (.iconst 0, 1) := by decide +kernel
theorem d_law_613 : decode code 613 = .ok (.invokevirtual 63, 3) := by decide +kernel
theorem d_law_616 : decode code 616 = .ok (.if_icmp .eq 179, 3) := by decide +kernel
theorem d_law_619 : decode code 619 = .ok (.iconst 0, 1) := by decide +kernel
theorem d_law_620 : decode code 620 = .ok (.ireturn, 1) := by decide +kernel
section
variable {p : Program} {l : Launch} {e : Env} {s : State} {m : MethodId} {args : Array Value} {below : List Frame} {meth : Method} {c : Code} {Q : State → Prop}
set_option maxHeartbeats 4000000 in
set_option maxRecDepth 100000 in
theorem lc_lift (hx : p.tables.exec = Jvm.exec) (hb : c.code = code) (hml : c.maxLocals = 4) (hown : s.vm.findClass "KeyCurveLaw" = some m.cls) (hts : ∀ w ∈ kl_y :: kt_all, w.before args s = true)
    {o mo b L : Nat} {A B : Nat → Nat} {xs : Nat → Int32} {cL cR cS cI cII cZ : ClassId} {D : va_G} {tys : List (ClassId × FieldType)} {tL tR tS tI tII tZ : Nat} {H0 : Heap} (hG : kl_G o mo b L A B xs cL cR cS cI cII cZ D tys tL tR tS tI tII tZ H0 s)
    {H : Heap} {v w : Nat → Nat} {bs cs : Nat → Bool} {far : Bool} {i : Nat} {ls : Array Slot} (hI : kl_I o mo A B cL cR cS cI cII cZ D H0 H v w bs cs far) (hi : i + 5 ≤ L) (hl : lv_has ls 4 [(3, .int (nI i)), (2, .ref mo), (1, .ref o), (0, .ref b)])
    (kk : ∀ (H : Heap) (v w : Nat → Nat) (bs cs : Nat → Bool) (far : Bool), kl_I o mo A B cL cR cS cI cII cZ D H0 H v w bs cs far → W p l e room_1 s m args below meth c H [] 77 611 Q (F0 m 795 ls [])) : W p l e room_1 s m args below meth c H [] 77 611 Q (F0 m 562 ls []) := by
  obtain ⟨hz, he, hc, hm, hR⟩ := hI
  obtain ⟨hso, hmo, hL, hbo, hK, hN, hZC, gC, hZM, gM, hL0, hR0, hS0, hI0, hII0, hZ0, hX⟩ := hG
  have hom : o ≤ mo := by omega
  have hS := kl_kr (hX.kept (he b hbo))
  refine lv_aload_n hx hb d_law_562 rfl (lv_at hl 2 rfl) ?_
  refine lv_aload_n hx hb d_law_563 rfl (lv_at hl 3 rfl) ?_
  refine lv_iload_n hx hb d_law_564 rfl (lv_at hl 0 rfl) ?_
  refine lv_iconst (v := nI 1) hx hb d_law_565 (by decide) ?_
  refine lv_iadd hx hb d_law_566 ?_
  refine kq_ri (show (nI i) + (nI 1) = nI (i + 1) from nI_add i 1) ?_
  refine kq_iald hx hb hS (show i + 1 < L by omega) (by omega) rfl d_law_567 ?_
  refine lv_aload_n hx hb d_law_568 rfl (lv_at hl 3 rfl) ?_
  refine lv_iload_n hx hb d_law_569 rfl (lv_at hl 0 rfl) ?_
  refine lv_iconst (v := nI 2) hx hb d_law_570 (by decide) ?_
  refine lv_iadd hx hb d_law_571 ?_
  refine kq_ri (show (nI i) + (nI 2) = nI (i + 2) from nI_add i 2) ?_
  refine kq_iald hx hb hS (show i + 2 < L by omega) (by omega) rfl d_law_572 ?_
  refine lv_aload_n hx hb d_law_573 rfl (lv_at hl 3 rfl) ?_
  refine lv_iload_n hx hb d_law_574 rfl (lv_at hl 0 rfl) ?_
  refine lv_iconst (v := nI 3) hx hb d_law_575 (by decide) ?_
  refine lv_iadd hx hb d_law_576 ?_
  refine kq_ri (show (nI i) + (nI 3) = nI (i + 3) from nI_add i 3) ?_
  refine kq_iald hx hb hS (show i + 3 < L by omega) (by omega) rfl d_law_577 ?_
  refine kl_flag hx hb d_law_578 rfl d_law_581 d_law_582 rfl d_law_585 rfl ?_
  refine kq_call (va_runV (As := [.int (xs (i + 1)), .int (xs (i + 2)), .int (kq_z (decide (¬ xs (i + 3) = 0)))]) (rest := []) ⟨hx, hb, hml, hown, hts⟩ (c_Ke_lift l (kl_C o A cL D tys H0 H) A o bs v H (kl_okC gC hL0) (kl_AC gC) (kl_OC gC hc) (kl_WC hc) (xs (i + 1)) (xs (i + 2)) (decide (¬ xs (i + 3) = 0))) (cwV 3 hts (kt_inV kt_w309 kt_w306 kt_w307 kt_w308 kt_w1) rfl rfl rfl (by decide +kernel) ⟨Nat.le_of_ble_eq_true rfl, Nat.le_of_ble_eq_true rfl⟩) (kq_p2V ((kr_K_s2 (kl_C o A cL D tys H0 H) A o)) (kl_KC hK hN hZC gC hL0 hR0 hS0 he hc) (kq_recv hK hc.1 rfl)) rfl rfl hl.1 rfl (lv_room (Nat.le_of_ble_eq_true rfl)) d_law_586 ⟨Nat.le_of_ble_eq_true rfl, Nat.le_of_ble_eq_true rfl⟩) (fun v9 H1 L1 hq1 hL1 => ?_)
  obtain ⟨rfl, v1, hW1, e1, f1, k1⟩ := hq1
  refine W.eq (g2 := F0 m 589 ls [.int (kq_z (kc_hasb (v (o + 2 + kx3 (xs (i + 2))))))]) rfl ?_
  refine va_forget (fun q hq => by
    have z := hL1 q hq
    have hh := kx_h_ge o ((decide (¬ xs (i + 3) = 0)))
    rcases z with z | z | z | z
    · rw [z]
      omega
    · rw [z]
      omega
    · rw [z]
      omega
    · unfold kr_fr at z
      omega) ?_
  have hc1 := hc.backb (kx3_lt _) hW1
  have off1 := kl_offb (kx3_lt _) hW1
  have hm1 := hm.same (fun q q1 q2 => off1.2 q (Or.inr (by omega)))
  have he1 : ∀ q, q < o → H1[q]? = H0[q]? := fun q hq => (off1.2 q (Or.inl hq)).trans (he q hq)
  have hS1 := hS.other (H1 := H1) (off1.2 b (Or.inl hbo))
  have hS := hS1
  refine lv_aload_n hx hb d_law_589 rfl (lv_at hl 1 rfl) ?_
  refine lv_aload_n hx hb d_law_590 rfl (lv_at hl 3 rfl) ?_
  refine lv_iload_n hx hb d_law_591 rfl (lv_at hl 0 rfl) ?_
  refine lv_iconst (v := nI 1) hx hb d_law_592 (by decide) ?_
  refine lv_iadd hx hb d_law_593 ?_
  refine kq_ri (show (nI i) + (nI 1) = nI (i + 1) from nI_add i 1) ?_
  refine kq_iald hx hb hS (show i + 1 < L by omega) (by omega) rfl d_law_594 ?_
  refine lv_aload_n hx hb d_law_595 rfl (lv_at hl 3 rfl) ?_
  refine lv_iload_n hx hb d_law_596 rfl (lv_at hl 0 rfl) ?_
  refine lv_iconst (v := nI 2) hx hb d_law_597 (by decide) ?_
  refine lv_iadd hx hb d_law_598 ?_
  refine kq_ri (show (nI i) + (nI 2) = nI (i + 2) from nI_add i 2) ?_
  refine kq_iald hx hb hS (show i + 2 < L by omega) (by omega) rfl d_law_599 ?_
  refine lv_aload_n hx hb d_law_600 rfl (lv_at hl 3 rfl) ?_
  refine lv_iload_n hx hb d_law_601 rfl (lv_at hl 0 rfl) ?_
  refine lv_iconst (v := nI 3) hx hb d_law_602 (by decide) ?_
  refine lv_iadd hx hb d_law_603 ?_
  refine kq_ri (show (nI i) + (nI 3) = nI (i + 3) from nI_add i 3) ?_
  refine kq_iald hx hb hS (show i + 3 < L by omega) (by omega) rfl d_law_604 ?_
  refine kl_flag hx hb d_law_605 rfl d_law_608 d_law_609 rfl d_law_612 rfl ?_
  refine kq_call (va_runV (As := [.int (xs (i + 1)), .int (xs (i + 2)), .int (kq_z (decide (¬ xs (i + 3) = 0)))]) (rest := [.int (kq_z (kc_hasb (v (o + 2 + kx3 (xs (i + 2))))))]) ⟨hx, hb, hml, hown, hts⟩ (c_Mo_lift l (kl_M mo B cI D tys H0 H1) B mo cZ far cs w H1 (kl_okM gM hom hI0) (kl_AM gM hom) kl_GM (kl_FM (tys := tys) gM hom hm1) (kl_WM hm1) (xs (i + 1)) (xs (i + 2)) (decide (¬ xs (i + 3) = 0))) (cwV 3 hts (kt_inV kt_w562 kt_w559 kt_w560 kt_w561 kt_w5) rfl rfl rfl (by decide +kernel) ⟨Nat.le_of_ble_eq_true rfl, Nat.le_of_ble_eq_true rfl⟩) (kq_preV ((ks_KZ_st (kl_M mo B cI D tys H0 H1) B mo cZ)) ((kl_KM hK hZM gM hom hI0 hII0 hZ0 he1 hm1)) (kq_recv hK hm1.1 rfl)) rfl rfl hl.1 rfl (lv_room (Nat.le_of_ble_eq_true rfl)) d_law_613 ⟨Nat.le_of_ble_eq_true rfl, Nat.le_of_ble_eq_true rfl⟩) (fun v9 H2 L2 hq2 hL2 => ?_)
  obtain ⟨rfl, w2, hX2, e2, f2, k2⟩ := hq2
  refine W.eq (g2 := F0 m 616 ls [.int (kq_z (kc_hasb (w (mo + 2 + kx3 (xs (i + 2)))))), .int (kq_z (kc_hasb (v (o + 2 + kx3 (xs (i + 2))))))]) rfl ?_
  refine va_forget (fun q hq => by
    have z := hL2 q hq
    have hh := kx_h_ge o ((decide (¬ xs (i + 3) = 0)))
    rcases z with z | z | z | z
    · rw [z]
      omega
    · rw [z]
      omega
    · rw [z]
      omega
    · unfold ks_fr at z
      omega) ?_
  obtain ⟨hm2, z2, off2⟩ := hm1.back gM hom hX2
  have hc2 := hc1.same (fun q q1 q2 => off2 q (Or.inl (by omega)))
  have hz2 : H2.size = o + 77 := z2.trans (off1.1.trans hz)
  have he2 : ∀ q, q < o → H2[q]? = H0[q]? := fun q hq => (off2 q (Or.inl (by omega))).trans (he1 q hq)
  have rA := (hR _ (kx3_lt (xs (i + 2)))).1
  rw [rA] at hc2 e1 f1 ⊢
  by_cases hC : (kc_hasb (w (mo + 2 + kx3 (xs (i + 2)))) = true)
  · rw [if_pos hC] at e1 f1 e2 f2 hm2 hc2
    have hR2 := hR.pt (v1 := v1) (w1 := w2) (bs1 := kx_ub bs (kx3 (xs (i + 1))) false) (cs1 := kx_ub cs (kx3 (xs (i + 1))) false) (kx3_lt (xs (i + 1))) (by rw [kx_ub_at, kx_ub_at]) (fun j hj => ⟨kx_ub_ne _ _ hj, kx_ub_ne _ _ hj⟩) (fun _ => ⟨by rw [e1, e2], by rw [f1, f2], by rw [e1]; exact kc_hasb_lt hC, by rw [f1]; exact kc_y_lt _ _⟩) (fun q q1 q2 q3 q4 => k1 q q1 q2 (by unfold kr_fr; omega)) (fun q q1 q2 q3 q4 => k2 q q1 q2 (by unfold ks_fr; omega))
    refine lv_icmp_eq hx hb d_law_616 rfl (fun hq => ?_) (fun hq => ?_)
    · exact kk _ _ _ _ _ _ ⟨hz2, he2, hc2, hm2, hR2⟩
    · exact absurd rfl hq
  · rw [if_neg hC] at e1 f1 e2 f2 hm2 hc2
    have hR2 := hR.pt (v1 := v1) (w1 := w2) (bs1 := kx_ub bs (kx3 (xs (i + 1))) (bs (kx3 (xs (i + 1))))) (cs1 := cs) (kx3_lt (xs (i + 1))) (by rw [kx_ub_at]; exact (hR _ (kx3_lt (xs (i + 1)))).2.1) (fun j hj => ⟨kx_ub_ne _ _ hj, rfl⟩) (fun z => by rw [kx_ub_at] at z; rw [e1, e2, f1, f2]; exact (hR _ (kx3_lt (xs (i + 1)))).2.2 z) (fun q q1 q2 q3 q4 => k1 q q1 q2 (by unfold kr_fr; omega)) (fun q q1 q2 q3 q4 => k2 q q1 q2 (by unfold ks_fr; omega))
    refine lv_icmp_eq hx hb d_law_616 rfl (fun hq => ?_) (fun hq => ?_)
    · exact kk _ _ _ _ _ _ ⟨hz2, he2, hc2, hm2, hR2⟩
    · exact absurd rfl hq
end
theorem d_law_621 : decode code 621 = .ok (.aload_n 1, 1) := by decide +kernel
theorem d_law_622 : decode code 622 = .ok (.aload_n 0, 1) := by decide +kernel
theorem d_law_623 : decode code 623 = .ok (.iload_n 3, 1) := by decide +kernel
theorem d_law_624 : decode code 624 = .ok (.iconst 1, 1) := by decide +kernel
theorem d_law_625 : decode code 625 = .ok (.iadd, 1) := by decide +kernel
theorem d_law_626 : decode code 626 = .ok (.iaload, 1) := by decide +kernel
theorem d_law_627 : decode code 627 = .ok (.aload_n 0, 1) := by decide +kernel
theorem d_law_628 : decode code 628 = .ok (.iload_n 3, 1) := by decide +kernel
theorem d_law_629 : decode code 629 = .ok (.iconst 2, 1) := by decide +kernel
theorem d_law_630 : decode code 630 = .ok (.iadd, 1) := by decide +kernel
theorem d_law_631 : decode code 631 = .ok (.iaload, 1) := by decide +kernel
theorem d_law_632 : decode code 632 = .ok (.aload_n 0, 1) := by decide +kernel
theorem d_law_633 : decode code 633 = .ok (.iload_n 3, 1) := by decide +kernel
theorem d_law_634 : decode code 634 = .ok (.iconst 3, 1) := by decide +kernel
theorem d_law_635 : decode code 635 = .ok (.iadd, 1) := by decide +kernel
theorem d_law_636 : decode code 636 = .ok (.iaload, 1) := by decide +kernel
theorem d_law_637 : decode code 637 = .ok (.invokevirtual 64, 3) := by decide +kernel
theorem d_law_640 : decode code 640 = .ok (.aload_n 2, 1) := by decide +kernel
theorem d_law_641 : decode code 641 = .ok (.aload_n 0, 1) := by decide +kernel
theorem d_law_642 : decode code 642 = .ok (.iload_n 3, 1) := by decide +kernel
theorem d_law_643 : decode code 643 = .ok (.iconst 1, 1) := by decide +kernel
theorem d_law_644 : decode code 644 = .ok (.iadd, 1) := by decide +kernel
theorem d_law_645 : decode code 645 = .ok (.iaload, 1) := by decide +kernel
theorem d_law_646 : decode code 646 = .ok (.aload_n 0, 1) := by decide +kernel
theorem d_law_647 : decode code 647 = .ok (.iload_n 3, 1) := by decide +kernel
theorem d_law_648 : decode code 648 = .ok (.iconst 2, 1) := by decide +kernel
theorem d_law_649 : decode code 649 = .ok (.iadd, 1) := by decide +kernel
theorem d_law_650 : decode code 650 = .ok (.iaload, 1) := by decide +kernel
theorem d_law_651 : decode code 651 = .ok (.aload_n 0, 1) := by decide +kernel
theorem d_law_652 : decode code 652 = .ok (.iload_n 3, 1) := by decide +kernel
theorem d_law_653 : decode code 653 = .ok (.iconst 3, 1) := by decide +kernel
theorem d_law_654 : decode code 654 = .ok (.iadd, 1) := by decide +kernel
theorem d_law_655 : decode code 655 = .ok (.iaload, 1) := by decide +kernel
theorem d_law_656 : decode code 656 = .ok (.invokevirtual 68, 3) := by decide +kernel
theorem d_law_659 : decode code 659 = .ok (.goto 136, 3) := by decide +kernel
section
variable {p : Program} {l : Launch} {e : Env} {s : State} {m : MethodId} {args : Array Value} {below : List Frame} {meth : Method} {c : Code} {Q : State → Prop}
set_option maxHeartbeats 4000000 in
set_option maxRecDepth 100000 in
theorem lc_plus (hx : p.tables.exec = Jvm.exec) (hb : c.code = code) (hml : c.maxLocals = 4) (hown : s.vm.findClass "KeyCurveLaw" = some m.cls) (hts : ∀ w ∈ kl_y :: kt_all, w.before args s = true)
    {o mo b L : Nat} {A B : Nat → Nat} {xs : Nat → Int32} {cL cR cS cI cII cZ : ClassId} {D : va_G} {tys : List (ClassId × FieldType)} {tL tR tS tI tII tZ : Nat} {H0 : Heap} (hG : kl_G o mo b L A B xs cL cR cS cI cII cZ D tys tL tR tS tI tII tZ H0 s)
    {H : Heap} {v w : Nat → Nat} {bs cs : Nat → Bool} {far : Bool} {i : Nat} {ls : Array Slot} (hI : kl_I o mo A B cL cR cS cI cII cZ D H0 H v w bs cs far) (hi : i + 5 ≤ L) (hl : lv_has ls 4 [(3, .int (nI i)), (2, .ref mo), (1, .ref o), (0, .ref b)])
    (kk : ∀ (H : Heap) (v w : Nat → Nat) (bs cs : Nat → Bool) (far : Bool), kl_I o mo A B cL cR cS cI cII cZ D H0 H v w bs cs far → W p l e room_1 s m args below meth c H [] 77 611 Q (F0 m 795 ls [])) : W p l e room_1 s m args below meth c H [] 77 611 Q (F0 m 621 ls []) := by
  obtain ⟨hz, he, hc, hm, hR⟩ := hI
  obtain ⟨hso, hmo, hL, hbo, hK, hN, hZC, gC, hZM, gM, hL0, hR0, hS0, hI0, hII0, hZ0, hX⟩ := hG
  have hom : o ≤ mo := by omega
  have hS := kl_kr (hX.kept (he b hbo))
  refine lv_aload_n hx hb d_law_621 rfl (lv_at hl 2 rfl) ?_
  refine lv_aload_n hx hb d_law_622 rfl (lv_at hl 3 rfl) ?_
  refine lv_iload_n hx hb d_law_623 rfl (lv_at hl 0 rfl) ?_
  refine lv_iconst (v := nI 1) hx hb d_law_624 (by decide) ?_
  refine lv_iadd hx hb d_law_625 ?_
  refine kq_ri (show (nI i) + (nI 1) = nI (i + 1) from nI_add i 1) ?_
  refine kq_iald hx hb hS (show i + 1 < L by omega) (by omega) rfl d_law_626 ?_
  refine lv_aload_n hx hb d_law_627 rfl (lv_at hl 3 rfl) ?_
  refine lv_iload_n hx hb d_law_628 rfl (lv_at hl 0 rfl) ?_
  refine lv_iconst (v := nI 2) hx hb d_law_629 (by decide) ?_
  refine lv_iadd hx hb d_law_630 ?_
  refine kq_ri (show (nI i) + (nI 2) = nI (i + 2) from nI_add i 2) ?_
  refine kq_iald hx hb hS (show i + 2 < L by omega) (by omega) rfl d_law_631 ?_
  refine lv_aload_n hx hb d_law_632 rfl (lv_at hl 3 rfl) ?_
  refine lv_iload_n hx hb d_law_633 rfl (lv_at hl 0 rfl) ?_
  refine lv_iconst (v := nI 3) hx hb d_law_634 (by decide) ?_
  refine lv_iadd hx hb d_law_635 ?_
  refine kq_ri (show (nI i) + (nI 3) = nI (i + 3) from nI_add i 3) ?_
  refine kq_iald hx hb hS (show i + 3 < L by omega) (by omega) rfl d_law_636 ?_
  refine kq_call (va_runV (As := [.int (xs (i + 1)), .int (xs (i + 2)), .int (xs (i + 3))]) (rest := []) ⟨hx, hb, hml, hown, hts⟩ (c_Ke_plus l (kl_C o A cL D tys H0 H) A o bs v H (kl_okC gC hL0) (kl_AC gC) (kl_OC gC hc) (kl_WC hc) hR.low.1 (xs (i + 1)) (xs (i + 2)) (xs (i + 3))) (cwV 3 hts (kt_inV kt_w319 kt_w316 kt_w317 kt_w318 kt_w1) rfl rfl rfl (by decide +kernel) ⟨Nat.le_of_ble_eq_true rfl, Nat.le_of_ble_eq_true rfl⟩) (kq_p2V ((kr_K_s2 (kl_C o A cL D tys H0 H) A o)) (kl_KC hK hN hZC gC hL0 hR0 hS0 he hc) (kq_recv hK hc.1 rfl)) rfl rfl hl.1 rfl (lv_room (Nat.le_of_ble_eq_true rfl)) d_law_637 ⟨Nat.le_of_ble_eq_true rfl, Nat.le_of_ble_eq_true rfl⟩) (fun v9 H1 L1 hq1 hL1 => ?_)
  obtain ⟨rfl, v1, hW1, e1, f1, k1⟩ := hq1
  refine W.eq (g2 := F0 m 640 ls []) rfl ?_
  refine va_forget (fun q hq => by
    have z := hL1 q hq
    have hh := kx_h_ge o (true)
    rcases z with z | z | z | z
    · rw [z]
      omega
    · rw [z]
      omega
    · rw [z]
      omega
    · unfold kr_fr at z
      omega) ?_
  have hc1 := hc.backb (kx3_lt _) hW1
  have off1 := kl_offb (kx3_lt _) hW1
  have hm1 := hm.same (fun q q1 q2 => off1.2 q (Or.inr (by omega)))
  have he1 : ∀ q, q < o → H1[q]? = H0[q]? := fun q hq => (off1.2 q (Or.inl hq)).trans (he q hq)
  have hS1 := hS.other (H1 := H1) (off1.2 b (Or.inl hbo))
  have hS := hS1
  refine lv_aload_n hx hb d_law_640 rfl (lv_at hl 1 rfl) ?_
  refine lv_aload_n hx hb d_law_641 rfl (lv_at hl 3 rfl) ?_
  refine lv_iload_n hx hb d_law_642 rfl (lv_at hl 0 rfl) ?_
  refine lv_iconst (v := nI 1) hx hb d_law_643 (by decide) ?_
  refine lv_iadd hx hb d_law_644 ?_
  refine kq_ri (show (nI i) + (nI 1) = nI (i + 1) from nI_add i 1) ?_
  refine kq_iald hx hb hS (show i + 1 < L by omega) (by omega) rfl d_law_645 ?_
  refine lv_aload_n hx hb d_law_646 rfl (lv_at hl 3 rfl) ?_
  refine lv_iload_n hx hb d_law_647 rfl (lv_at hl 0 rfl) ?_
  refine lv_iconst (v := nI 2) hx hb d_law_648 (by decide) ?_
  refine lv_iadd hx hb d_law_649 ?_
  refine kq_ri (show (nI i) + (nI 2) = nI (i + 2) from nI_add i 2) ?_
  refine kq_iald hx hb hS (show i + 2 < L by omega) (by omega) rfl d_law_650 ?_
  refine lv_aload_n hx hb d_law_651 rfl (lv_at hl 3 rfl) ?_
  refine lv_iload_n hx hb d_law_652 rfl (lv_at hl 0 rfl) ?_
  refine lv_iconst (v := nI 3) hx hb d_law_653 (by decide) ?_
  refine lv_iadd hx hb d_law_654 ?_
  refine kq_ri (show (nI i) + (nI 3) = nI (i + 3) from nI_add i 3) ?_
  refine kq_iald hx hb hS (show i + 3 < L by omega) (by omega) rfl d_law_655 ?_
  refine kq_call (va_runV (As := [.int (xs (i + 1)), .int (xs (i + 2)), .int (xs (i + 3))]) (rest := []) ⟨hx, hb, hml, hown, hts⟩ (c_Mo_plus_0 l (kl_M mo B cI D tys H0 H1) B mo cZ far cs w H1 (kl_okM gM hom hI0) (kl_AM gM hom) kl_GM (kl_FM (tys := tys) gM hom hm1) (kl_WM hm1) hR.low.2 (xs (i + 1)) (xs (i + 2)) (xs (i + 3))) (cwV 3 hts (kt_inV kt_w566 kt_w563 kt_w564 kt_w565 kt_w5) rfl rfl rfl (by decide +kernel) ⟨Nat.le_of_ble_eq_true rfl, Nat.le_of_ble_eq_true rfl⟩) (kq_preV ((ks_KZ_st (kl_M mo B cI D tys H0 H1) B mo cZ)) ((kl_KM hK hZM gM hom hI0 hII0 hZ0 he1 hm1)) (kq_recv hK hm1.1 rfl)) rfl rfl hl.1 rfl (lv_room (Nat.le_of_ble_eq_true rfl)) d_law_656 ⟨Nat.le_of_ble_eq_true rfl, Nat.le_of_ble_eq_true rfl⟩) (fun v9 H2 L2 hq2 hL2 => ?_)
  obtain ⟨rfl, far2, w2, hX2, e2, f2, k2⟩ := hq2
  refine W.eq (g2 := F0 m 659 ls []) rfl ?_
  refine va_forget (fun q hq => by
    have z := hL2 q hq
    have hh := kx_h_ge o (true)
    rcases z with z | z | z | z | z
    · rw [z]
      omega
    · rw [z]
      omega
    · rw [z]
      omega
    · rw [z]
      omega
    · unfold ks_fr at z
      omega) ?_
  obtain ⟨hm2, z2, off2⟩ := hm1.back gM hom hX2
  have hc2 := hc1.same (fun q q1 q2 => off2 q (Or.inl (by omega)))
  have hz2 : H2.size = o + 77 := z2.trans (off1.1.trans hz)
  have he2 : ∀ q, q < o → H2[q]? = H0[q]? := fun q hq => (off2 q (Or.inl (by omega))).trans (he1 q hq)
  rw [hR.sum2 (kx3_lt (xs (i + 2))) (kx3_lt (xs (i + 3)))] at hc2 e1 f1
  have hlo := hR.sum2_low (kx3_lt (xs (i + 2))) (kx3_lt (xs (i + 3)))
  rw [hR.sum2 (kx3_lt (xs (i + 2))) (kx3_lt (xs (i + 3)))] at hlo
  generalize hSS : kc_sum2 (cs (kx3 (xs (i + 2)))) (w (mo + 7 + kx3 (xs (i + 2)))) (w (mo + 12 + kx3 (xs (i + 2)))) (cs (kx3 (xs (i + 3)))) (w (mo + 7 + kx3 (xs (i + 3)))) (w (mo + 12 + kx3 (xs (i + 3)))) = SS at *
  have hI2 : kl_I o mo A B cL cR cS cI cII cZ D H0 H2 _ _ _ _ _ := ⟨hz2, he2, hc2, hm2, hR.pt (kx3_lt (xs (i + 1))) (by rw [kx_ub_at, kx_ub_at]) (fun j hj => ⟨kx_ub_ne _ _ hj, kx_ub_ne _ _ hj⟩) (fun z => by
    rw [kx_ub_at] at z
    cases hq0 : SS with
    | none => rw [hq0] at z; cases z
    | some q0 =>
      obtain ⟨x1, x2⟩ := e1 q0 hq0
      obtain ⟨y1, y2⟩ := e2 q0 hq0
      obtain ⟨t1, t2⟩ := hlo q0 hq0
      rw [x1, x2, y1, y2]
      exact ⟨rfl, rfl, t1, t2⟩) (fun q q1 q2 q3 q4 => k1 q q1 q2 (by unfold kr_fr; omega)) (fun q q1 q2 q3 q4 => k2 q q1 q2 (by unfold ks_fr; omega))⟩
  refine lv_goto hx hb d_law_659 rfl ?_
  exact kk _ _ _ _ _ _ hI2
end
theorem d_law_662 : decode code 662 = .ok (.aload_n 1, 1) := by decide +kernel
theorem d_law_663 : decode code 663 = .ok (.aload_n 0, 1) := by decide +kernel
theorem d_law_664 : decode code 664 = .ok (.iload_n 3, 1) := by decide +kernel
theorem d_law_665 : decode code 665 = .ok (.iconst 1, 1) := by decide +kernel
theorem d_law_666 : decode code 666 = .ok (.iadd, 1) := by decide +kernel
theorem d_law_667 : decode code 667 = .ok (.iaload, 1) := by decide +kernel
theorem d_law_668 : decode code 668 = .ok (.aload_n 0, 1) := by decide +kernel
theorem d_law_669 : decode code 669 = .ok (.iload_n 3, 1) := by decide +kernel
theorem d_law_670 : decode code 670 = .ok (.iconst 2, 1) := by decide +kernel
theorem d_law_671 : decode code 671 = .ok (.iadd, 1) := by decide +kernel
theorem d_law_672 : decode code 672 = .ok (.iaload, 1) := by decide +kernel
theorem d_law_673 : decode code 673 = .ok (.aload_n 0, 1) := by decide +kernel
theorem d_law_674 : decode code 674 = .ok (.iload_n 3, 1) := by decide +kernel
theorem d_law_675 : decode code 675 = .ok (.iconst 3, 1) := by decide +kernel
theorem d_law_676 : decode code 676 = .ok (.iadd, 1) := by decide +kernel
theorem d_law_677 : decode code 677 = .ok (.iaload, 1) := by decide +kernel
theorem d_law_678 : decode code 678 = .ok (.invokevirtual 69, 3) := by decide +kernel
theorem d_law_681 : decode code 681 = .ok (.aload_n 2, 1) := by decide +kernel
theorem d_law_682 : decode code 682 = .ok (.aload_n 0, 1) := by decide +kernel
theorem d_law_683 : decode code 683 = .ok (.iload_n 3, 1) := by decide +kernel
theorem d_law_684 : decode code 684 = .ok (.iconst 1, 1) := by decide +kernel
theorem d_law_685 : decode code 685 = .ok (.iadd, 1) := by decide +kernel
theorem d_law_686 : decode code 686 = .ok (.iaload, 1) := by decide +kernel
theorem d_law_687 : decode code 687 = .ok (.aload_n 0, 1) := by decide +kernel
theorem d_law_688 : decode code 688 = .ok (.iload_n 3, 1) := by decide +kernel
theorem d_law_689 : decode code 689 = .ok (.iconst 2, 1) := by decide +kernel
theorem d_law_690 : decode code 690 = .ok (.iadd, 1) := by decide +kernel
theorem d_law_691 : decode code 691 = .ok (.iaload, 1) := by decide +kernel
theorem d_law_692 : decode code 692 = .ok (.aload_n 0, 1) := by decide +kernel
theorem d_law_693 : decode code 693 = .ok (.iload_n 3, 1) := by decide +kernel
theorem d_law_694 : decode code 694 = .ok (.iconst 3, 1) := by decide +kernel
theorem d_law_695 : decode code 695 = .ok (.iadd, 1) := by decide +kernel
theorem d_law_696 : decode code 696 = .ok (.iaload, 1) := by decide +kernel
theorem d_law_697 : decode code 697 = .ok (.invokevirtual 72, 3) := by decide +kernel
theorem d_law_700 : decode code 700 = .ok (.goto 95, 3) := by decide +kernel
section
variable {p : Program} {l : Launch} {e : Env} {s : State} {m : MethodId} {args : Array Value} {below : List Frame} {meth : Method} {c : Code} {Q : State → Prop}
set_option maxHeartbeats 4000000 in
set_option maxRecDepth 100000 in
theorem lc_times (hx : p.tables.exec = Jvm.exec) (hb : c.code = code) (hml : c.maxLocals = 4) (hown : s.vm.findClass "KeyCurveLaw" = some m.cls) (hts : ∀ w ∈ kl_y :: kt_all, w.before args s = true)
    {o mo b L : Nat} {A B : Nat → Nat} {xs : Nat → Int32} {cL cR cS cI cII cZ : ClassId} {D : va_G} {tys : List (ClassId × FieldType)} {tL tR tS tI tII tZ : Nat} {H0 : Heap} (hG : kl_G o mo b L A B xs cL cR cS cI cII cZ D tys tL tR tS tI tII tZ H0 s)
    {H : Heap} {v w : Nat → Nat} {bs cs : Nat → Bool} {far : Bool} {i : Nat} {ls : Array Slot} (hI : kl_I o mo A B cL cR cS cI cII cZ D H0 H v w bs cs far) (hi : i + 5 ≤ L) (hl : lv_has ls 4 [(3, .int (nI i)), (2, .ref mo), (1, .ref o), (0, .ref b)])
    (kk : ∀ (H : Heap) (v w : Nat → Nat) (bs cs : Nat → Bool) (far : Bool), kl_I o mo A B cL cR cS cI cII cZ D H0 H v w bs cs far → W p l e room_1 s m args below meth c H [] 77 611 Q (F0 m 795 ls [])) : W p l e room_1 s m args below meth c H [] 77 611 Q (F0 m 662 ls []) := by
  obtain ⟨hz, he, hc, hm, hR⟩ := hI
  obtain ⟨hso, hmo, hL, hbo, hK, hN, hZC, gC, hZM, gM, hL0, hR0, hS0, hI0, hII0, hZ0, hX⟩ := hG
  have hom : o ≤ mo := by omega
  have hS := kl_kr (hX.kept (he b hbo))
  refine lv_aload_n hx hb d_law_662 rfl (lv_at hl 2 rfl) ?_
  refine lv_aload_n hx hb d_law_663 rfl (lv_at hl 3 rfl) ?_
  refine lv_iload_n hx hb d_law_664 rfl (lv_at hl 0 rfl) ?_
  refine lv_iconst (v := nI 1) hx hb d_law_665 (by decide) ?_
  refine lv_iadd hx hb d_law_666 ?_
  refine kq_ri (show (nI i) + (nI 1) = nI (i + 1) from nI_add i 1) ?_
  refine kq_iald hx hb hS (show i + 1 < L by omega) (by omega) rfl d_law_667 ?_
  refine lv_aload_n hx hb d_law_668 rfl (lv_at hl 3 rfl) ?_
  refine lv_iload_n hx hb d_law_669 rfl (lv_at hl 0 rfl) ?_
  refine lv_iconst (v := nI 2) hx hb d_law_670 (by decide) ?_
  refine lv_iadd hx hb d_law_671 ?_
  refine kq_ri (show (nI i) + (nI 2) = nI (i + 2) from nI_add i 2) ?_
  refine kq_iald hx hb hS (show i + 2 < L by omega) (by omega) rfl d_law_672 ?_
  refine lv_aload_n hx hb d_law_673 rfl (lv_at hl 3 rfl) ?_
  refine lv_iload_n hx hb d_law_674 rfl (lv_at hl 0 rfl) ?_
  refine lv_iconst (v := nI 3) hx hb d_law_675 (by decide) ?_
  refine lv_iadd hx hb d_law_676 ?_
  refine kq_ri (show (nI i) + (nI 3) = nI (i + 3) from nI_add i 3) ?_
  refine kq_iald hx hb hS (show i + 3 < L by omega) (by omega) rfl d_law_677 ?_
  refine kq_call (va_runV (As := [.int (xs (i + 1)), .int (xs (i + 2)), .int (xs (i + 3))]) (rest := []) ⟨hx, hb, hml, hown, hts⟩ (c_Ke_times l (kl_C o A cL D tys H0 H) A o bs v H (kl_okC gC hL0) (kl_AC gC) (kl_OC gC hc) (kl_WC hc) hR.low.1 (xs (i + 1)) (xs (i + 2)) (xs (i + 3))) (cwV 3 hts (kt_inV kt_w351 kt_w348 kt_w349 kt_w350 kt_w1) rfl rfl rfl (by decide +kernel) ⟨Nat.le_of_ble_eq_true rfl, Nat.le_of_ble_eq_true rfl⟩) (kq_p2V ((kr_K_s2 (kl_C o A cL D tys H0 H) A o)) (kl_KC hK hN hZC gC hL0 hR0 hS0 he hc) (kq_recv hK hc.1 rfl)) rfl rfl hl.1 rfl (lv_room (Nat.le_of_ble_eq_true rfl)) d_law_678 ⟨Nat.le_of_ble_eq_true rfl, Nat.le_of_ble_eq_true rfl⟩) (fun v9 H1 L1 hq1 hL1 => ?_)
  obtain ⟨rfl, v1, hW1, e1, f1, k1⟩ := hq1
  refine W.eq (g2 := F0 m 681 ls []) rfl ?_
  refine va_forget (fun q hq => by
    have z := hL1 q hq
    have hh := kx_h_ge o (true)
    rcases z with z | z | z | z
    · rw [z]
      omega
    · rw [z]
      omega
    · rw [z]
      omega
    · unfold kr_fr at z
      omega) ?_
  have hc1 := hc.backb (kx3_lt _) hW1
  have off1 := kl_offb (kx3_lt _) hW1
  have hm1 := hm.same (fun q q1 q2 => off1.2 q (Or.inr (by omega)))
  have he1 : ∀ q, q < o → H1[q]? = H0[q]? := fun q hq => (off1.2 q (Or.inl hq)).trans (he q hq)
  have hS1 := hS.other (H1 := H1) (off1.2 b (Or.inl hbo))
  have hS := hS1
  refine lv_aload_n hx hb d_law_681 rfl (lv_at hl 1 rfl) ?_
  refine lv_aload_n hx hb d_law_682 rfl (lv_at hl 3 rfl) ?_
  refine lv_iload_n hx hb d_law_683 rfl (lv_at hl 0 rfl) ?_
  refine lv_iconst (v := nI 1) hx hb d_law_684 (by decide) ?_
  refine lv_iadd hx hb d_law_685 ?_
  refine kq_ri (show (nI i) + (nI 1) = nI (i + 1) from nI_add i 1) ?_
  refine kq_iald hx hb hS (show i + 1 < L by omega) (by omega) rfl d_law_686 ?_
  refine lv_aload_n hx hb d_law_687 rfl (lv_at hl 3 rfl) ?_
  refine lv_iload_n hx hb d_law_688 rfl (lv_at hl 0 rfl) ?_
  refine lv_iconst (v := nI 2) hx hb d_law_689 (by decide) ?_
  refine lv_iadd hx hb d_law_690 ?_
  refine kq_ri (show (nI i) + (nI 2) = nI (i + 2) from nI_add i 2) ?_
  refine kq_iald hx hb hS (show i + 2 < L by omega) (by omega) rfl d_law_691 ?_
  refine lv_aload_n hx hb d_law_692 rfl (lv_at hl 3 rfl) ?_
  refine lv_iload_n hx hb d_law_693 rfl (lv_at hl 0 rfl) ?_
  refine lv_iconst (v := nI 3) hx hb d_law_694 (by decide) ?_
  refine lv_iadd hx hb d_law_695 ?_
  refine kq_ri (show (nI i) + (nI 3) = nI (i + 3) from nI_add i 3) ?_
  refine kq_iald hx hb hS (show i + 3 < L by omega) (by omega) rfl d_law_696 ?_
  refine kq_call (va_runV (As := [.int (xs (i + 1)), .int (xs (i + 2)), .int (xs (i + 3))]) (rest := []) ⟨hx, hb, hml, hown, hts⟩ (c_Mo_times_0 l (kl_M mo B cI D tys H0 H1) B mo cZ far cs w H1 (kl_okM gM hom hI0) (kl_AM gM hom) kl_GM (kl_FM (tys := tys) gM hom hm1) (kl_WM hm1) hR.low.2 (xs (i + 1)) (xs (i + 2)) (xs (i + 3))) (cwV 3 hts (kt_inV kt_w589 kt_w586 kt_w587 kt_w588 kt_w5) rfl rfl rfl (by decide +kernel) ⟨Nat.le_of_ble_eq_true rfl, Nat.le_of_ble_eq_true rfl⟩) (kq_preV ((ks_KZ_st (kl_M mo B cI D tys H0 H1) B mo cZ)) ((kl_KM hK hZM gM hom hI0 hII0 hZ0 he1 hm1)) (kq_recv hK hm1.1 rfl)) rfl rfl hl.1 rfl (lv_room (Nat.le_of_ble_eq_true rfl)) d_law_697 ⟨Nat.le_of_ble_eq_true rfl, Nat.le_of_ble_eq_true rfl⟩) (fun v9 H2 L2 hq2 hL2 => ?_)
  obtain ⟨rfl, far2, w2, hX2, e2, f2, k2⟩ := hq2
  refine W.eq (g2 := F0 m 700 ls []) rfl ?_
  refine va_forget (fun q hq => by
    have z := hL2 q hq
    have hh := kx_h_ge o (true)
    rcases z with z | z | z | z | z
    · rw [z]
      omega
    · rw [z]
      omega
    · rw [z]
      omega
    · rw [z]
      omega
    · unfold ks_fr at z
      omega) ?_
  obtain ⟨hm2, z2, off2⟩ := hm1.back gM hom hX2
  have hc2 := hc1.same (fun q q1 q2 => off2 q (Or.inl (by omega)))
  have hz2 : H2.size = o + 77 := z2.trans (off1.1.trans hz)
  have he2 : ∀ q, q < o → H2[q]? = H0[q]? := fun q hq => (off2 q (Or.inl (by omega))).trans (he1 q hq)
  have rN := (hR _ (kx3_lt (xs (i + 3)))).1
  have rb := (hR _ (kx3_lt (xs (i + 2)))).2.1
  have hjj := kc_mj_eq (N := w (mo + 2 + kx3 (xs (i + 3)))) (b := cs (kx3 (xs (i + 2)))) (fun z => ⟨((hR _ (kx3_lt (xs (i + 2)))).2.2 (rb.trans z)).1, ((hR _ (kx3_lt (xs (i + 2)))).2.2 (rb.trans z)).2.1⟩) 256
  rw [rN, rb, hjj] at hc2 e1 f1
  have hlo := kc_mj_low (N := w (mo + 2 + kx3 (xs (i + 3)))) (b := cs (kx3 (xs (i + 2)))) (fun z => hR.low.2 _ (kx3_lt (xs (i + 2))) z) 256
  generalize hSS : kc_mj (w (mo + 2 + kx3 (xs (i + 3)))) (cs (kx3 (xs (i + 2)))) (w (mo + 7 + kx3 (xs (i + 2)))) (w (mo + 12 + kx3 (xs (i + 2)))) 256 = SS at *
  have hI2 : kl_I o mo A B cL cR cS cI cII cZ D H0 H2 _ _ _ _ _ := ⟨hz2, he2, hc2, hm2, hR.pt (kx3_lt (xs (i + 1))) (by rw [kx_ub_at, kx_ub_at]) (fun j hj => ⟨kx_ub_ne _ _ hj, kx_ub_ne _ _ hj⟩) (fun z => by
    rw [kx_ub_at] at z
    cases hq0 : SS with
    | none => rw [hq0] at z; cases z
    | some q0 =>
      obtain ⟨x1, x2⟩ := e1 q0 hq0
      obtain ⟨y1, y2⟩ := e2 q0 hq0
      obtain ⟨t1, t2⟩ := hlo q0 hq0
      rw [x1, x2, y1, y2]
      exact ⟨rfl, rfl, t1, t2⟩) (fun q q1 q2 q3 q4 => k1 q q1 q2 (by unfold kr_fr; omega)) (fun q q1 q2 q3 q4 => k2 q q1 q2 (by unfold ks_fr; omega))⟩
  refine lv_goto hx hb d_law_700 rfl ?_
  exact kk _ _ _ _ _ _ hI2
end
theorem d_law_703 : decode code 703 = .ok (.aload_n 1, 1) := by decide +kernel
theorem d_law_704 : decode code 704 = .ok (.aload_n 0, 1) := by decide +kernel
theorem d_law_705 : decode code 705 = .ok (.iload_n 3, 1) := by decide +kernel
theorem d_law_706 : decode code 706 = .ok (.iconst 1, 1) := by decide +kernel
theorem d_law_707 : decode code 707 = .ok (.iadd, 1) := by decide +kernel
theorem d_law_708 : decode code 708 = .ok (.iaload, 1) := by decide +kernel
theorem d_law_709 : decode code 709 = .ok (.aload_n 0, 1) := by decide +kernel
theorem d_law_710 : decode code 710 = .ok (.iload_n 3, 1) := by decide +kernel
theorem d_law_711 : decode code 711 = .ok (.iconst 2, 1) := by decide +kernel
theorem d_law_712 : decode code 712 = .ok (.iadd, 1) := by decide +kernel
theorem d_law_713 : decode code 713 = .ok (.iaload, 1) := by decide +kernel
theorem d_law_714 : decode code 714 = .ok (.aload_n 0, 1) := by decide +kernel
theorem d_law_715 : decode code 715 = .ok (.iload_n 3, 1) := by decide +kernel
theorem d_law_716 : decode code 716 = .ok (.iconst 3, 1) := by decide +kernel
theorem d_law_717 : decode code 717 = .ok (.iadd, 1) := by decide +kernel
theorem d_law_718 : decode code 718 = .ok (.iaload, 1) := by decide +kernel
theorem d_law_719 : decode code 719 = .ok (.ifCond .eq 7, 3) := by decide +kernel
theorem d_law_722 : decode code 722 = .ok (.iconst 1, 1) := by decide +kernel
theorem d_law_723 : decode code 723 = .ok (.goto 4, 3) := by decide +kernel
theorem d_law_726 : decode code 726 = .ok (.iconst 0, 1) := by decide +kernel
theorem d_law_727 : decode code 727 = .ok (.invokevirtual 73, 3) := by decide +kernel
theorem d_law_730 : decode code 730 = .ok (.aload_n 2, 1) := by decide +kernel
theorem d_law_731 : decode code 731 = .ok (.aload_n 0, 1) := by decide +kernel
theorem d_law_732 : decode code 732 = .ok (.iload_n 3, 1) := by decide +kernel
theorem d_law_733 : decode code 733 = .ok (.iconst 1, 1) := by decide +kernel
theorem d_law_734 : decode code 734 = .ok (.iadd, 1) := by decide +kernel
theorem d_law_735 : decode code 735 = .ok (.iaload, 1) := by decide +kernel
theorem d_law_736 : decode code 736 = .ok (.aload_n 0, 1) := by decide +kernel
theorem d_law_737 : decode code 737 = .ok (.iload_n 3, 1) := by decide +kernel
theorem d_law_738 : decode code 738 = .ok (.iconst 2, 1) := by decide +kernel
theorem d_law_739 : decode code 739 = .ok (.iadd, 1) := by decide +kernel
theorem d_law_740 : decode code 740 = .ok (.iaload, 1) := by decide +kernel
theorem d_law_741 : decode code 741 = .ok (.aload_n 0, 1) := by decide +kernel
theorem d_law_742 : decode code 742 = .ok (.iload_n 3, 1) := by decide +kernel
theorem d_law_743 : decode code 743 = .ok (.iconst 3, 1) := by decide +kernel
theorem d_law_744 : decode code 744 = .ok (.iadd, 1) := by decide +kernel
theorem d_law_745 : decode code 745 = .ok (.iaload, 1) := by decide +kernel
theorem d_law_746 : decode code 746 = .ok (.ifCond .eq 7, 3) := by decide +kernel
theorem d_law_749 : decode code 749 = .ok (.iconst 1, 1) := by decide +kernel
theorem d_law_750 : decode code 750 = .ok (.goto 4, 3) := by decide +kernel
theorem d_law_753 : decode code 753 = .ok (.iconst 0, 1) := by decide +kernel
theorem d_law_754 : decode code 754 = .ok (.invokevirtual 76, 3) := by decide +kernel
theorem d_law_757 : decode code 757 = .ok (.if_icmp .eq 38, 3) := by decide +kernel
theorem d_law_760 : decode code 760 = .ok (.iconst 0, 1) := by decide +kernel
theorem d_law_761 : decode code 761 = .ok (.ireturn, 1) := by decide +kernel
section
variable {p : Program} {l : Launch} {e : Env} {s : State} {m : MethodId} {args : Array Value} {below : List Frame} {meth : Method} {c : Code} {Q : State → Prop}
set_option maxHeartbeats 4000000 in
set_option maxRecDepth 100000 in
theorem lc_take (hx : p.tables.exec = Jvm.exec) (hb : c.code = code) (hml : c.maxLocals = 4) (hown : s.vm.findClass "KeyCurveLaw" = some m.cls) (hts : ∀ w ∈ kl_y :: kt_all, w.before args s = true)
    {o mo b L : Nat} {A B : Nat → Nat} {xs : Nat → Int32} {cL cR cS cI cII cZ : ClassId} {D : va_G} {tys : List (ClassId × FieldType)} {tL tR tS tI tII tZ : Nat} {H0 : Heap} (hG : kl_G o mo b L A B xs cL cR cS cI cII cZ D tys tL tR tS tI tII tZ H0 s)
    {H : Heap} {v w : Nat → Nat} {bs cs : Nat → Bool} {far : Bool} {i : Nat} {ls : Array Slot} (hI : kl_I o mo A B cL cR cS cI cII cZ D H0 H v w bs cs far) (hi : i + 5 ≤ L) (hl : lv_has ls 4 [(3, .int (nI i)), (2, .ref mo), (1, .ref o), (0, .ref b)])
    (kk : ∀ (H : Heap) (v w : Nat → Nat) (bs cs : Nat → Bool) (far : Bool), kl_I o mo A B cL cR cS cI cII cZ D H0 H v w bs cs far → W p l e room_1 s m args below meth c H [] 77 611 Q (F0 m 795 ls [])) : W p l e room_1 s m args below meth c H [] 77 611 Q (F0 m 703 ls []) := by
  obtain ⟨hz, he, hc, hm, hR⟩ := hI
  obtain ⟨hso, hmo, hL, hbo, hK, hN, hZC, gC, hZM, gM, hL0, hR0, hS0, hI0, hII0, hZ0, hX⟩ := hG
  have hom : o ≤ mo := by omega
  have hS := kl_kr (hX.kept (he b hbo))
  refine lv_aload_n hx hb d_law_703 rfl (lv_at hl 2 rfl) ?_
  refine lv_aload_n hx hb d_law_704 rfl (lv_at hl 3 rfl) ?_
  refine lv_iload_n hx hb d_law_705 rfl (lv_at hl 0 rfl) ?_
  refine lv_iconst (v := nI 1) hx hb d_law_706 (by decide) ?_
  refine lv_iadd hx hb d_law_707 ?_
  refine kq_ri (show (nI i) + (nI 1) = nI (i + 1) from nI_add i 1) ?_
  refine kq_iald hx hb hS (show i + 1 < L by omega) (by omega) rfl d_law_708 ?_
  refine lv_aload_n hx hb d_law_709 rfl (lv_at hl 3 rfl) ?_
  refine lv_iload_n hx hb d_law_710 rfl (lv_at hl 0 rfl) ?_
  refine lv_iconst (v := nI 2) hx hb d_law_711 (by decide) ?_
  refine lv_iadd hx hb d_law_712 ?_
  refine kq_ri (show (nI i) + (nI 2) = nI (i + 2) from nI_add i 2) ?_
  refine kq_iald hx hb hS (show i + 2 < L by omega) (by omega) rfl d_law_713 ?_
  refine lv_aload_n hx hb d_law_714 rfl (lv_at hl 3 rfl) ?_
  refine lv_iload_n hx hb d_law_715 rfl (lv_at hl 0 rfl) ?_
  refine lv_iconst (v := nI 3) hx hb d_law_716 (by decide) ?_
  refine lv_iadd hx hb d_law_717 ?_
  refine kq_ri (show (nI i) + (nI 3) = nI (i + 3) from nI_add i 3) ?_
  refine kq_iald hx hb hS (show i + 3 < L by omega) (by omega) rfl d_law_718 ?_
  refine kl_flag hx hb d_law_719 rfl d_law_722 d_law_723 rfl d_law_726 rfl ?_
  refine kq_call (va_runV (As := [.int (xs (i + 1)), .int (xs (i + 2)), .int (kq_z (decide (¬ xs (i + 3) = 0)))]) (rest := []) ⟨hx, hb, hml, hown, hts⟩ (c_Ke_take l (kl_C o A cL D tys H0 H) A o bs v H (kl_okC gC hL0) (kl_AC gC) (kl_OC gC hc) (kl_WC hc) (xs (i + 1)) (xs (i + 2)) (decide (¬ xs (i + 3) = 0))) (cwV 3 hts (kt_inV kt_w361 kt_w358 kt_w359 kt_w360 kt_w1) rfl rfl rfl (by decide +kernel) ⟨Nat.le_of_ble_eq_true rfl, Nat.le_of_ble_eq_true rfl⟩) (kq_p2V ((kr_K_s2 (kl_C o A cL D tys H0 H) A o)) (kl_KC hK hN hZC gC hL0 hR0 hS0 he hc) (kq_recv hK hc.1 rfl)) rfl rfl hl.1 rfl (lv_room (Nat.le_of_ble_eq_true rfl)) d_law_727 ⟨Nat.le_of_ble_eq_true rfl, Nat.le_of_ble_eq_true rfl⟩) (fun v9 H1 L1 hq1 hL1 => ?_)
  obtain ⟨rfl, v1, hW1, e1, k1⟩ := hq1
  refine W.eq (g2 := F0 m 730 ls [.int (kq_z (!bs (kx3 (xs (i + 2)))))]) rfl ?_
  refine va_forget (fun q hq => by
    have z := hL1 q hq
    have hh := kx_h_ge o ((decide (¬ xs (i + 3) = 0)))
    rw [z]
    omega) ?_
  have hc1 := hc.back hW1
  have off1 := kl_offC hW1
  have hm1 := hm.same (fun q q1 q2 => off1.2 q (Or.inr (by omega)))
  have he1 : ∀ q, q < o → H1[q]? = H0[q]? := fun q hq => (off1.2 q (Or.inl hq)).trans (he q hq)
  have hS1 := hS.other (H1 := H1) (off1.2 b (Or.inl hbo))
  have hS := hS1
  refine lv_aload_n hx hb d_law_730 rfl (lv_at hl 1 rfl) ?_
  refine lv_aload_n hx hb d_law_731 rfl (lv_at hl 3 rfl) ?_
  refine lv_iload_n hx hb d_law_732 rfl (lv_at hl 0 rfl) ?_
  refine lv_iconst (v := nI 1) hx hb d_law_733 (by decide) ?_
  refine lv_iadd hx hb d_law_734 ?_
  refine kq_ri (show (nI i) + (nI 1) = nI (i + 1) from nI_add i 1) ?_
  refine kq_iald hx hb hS (show i + 1 < L by omega) (by omega) rfl d_law_735 ?_
  refine lv_aload_n hx hb d_law_736 rfl (lv_at hl 3 rfl) ?_
  refine lv_iload_n hx hb d_law_737 rfl (lv_at hl 0 rfl) ?_
  refine lv_iconst (v := nI 2) hx hb d_law_738 (by decide) ?_
  refine lv_iadd hx hb d_law_739 ?_
  refine kq_ri (show (nI i) + (nI 2) = nI (i + 2) from nI_add i 2) ?_
  refine kq_iald hx hb hS (show i + 2 < L by omega) (by omega) rfl d_law_740 ?_
  refine lv_aload_n hx hb d_law_741 rfl (lv_at hl 3 rfl) ?_
  refine lv_iload_n hx hb d_law_742 rfl (lv_at hl 0 rfl) ?_
  refine lv_iconst (v := nI 3) hx hb d_law_743 (by decide) ?_
  refine lv_iadd hx hb d_law_744 ?_
  refine kq_ri (show (nI i) + (nI 3) = nI (i + 3) from nI_add i 3) ?_
  refine kq_iald hx hb hS (show i + 3 < L by omega) (by omega) rfl d_law_745 ?_
  refine kl_flag hx hb d_law_746 rfl d_law_749 d_law_750 rfl d_law_753 rfl ?_
  refine kq_call (va_runV (As := [.int (xs (i + 1)), .int (xs (i + 2)), .int (kq_z (decide (¬ xs (i + 3) = 0)))]) (rest := [.int (kq_z (!bs (kx3 (xs (i + 2)))))]) ⟨hx, hb, hml, hown, hts⟩ (c_Mo_take l (kl_M mo B cI D tys H0 H1) B mo cZ far cs w H1 (kl_okM gM hom hI0) (kl_AM gM hom) kl_GM (kl_FM (tys := tys) gM hom hm1) (kl_WM hm1) (xs (i + 1)) (xs (i + 2)) (decide (¬ xs (i + 3) = 0))) (cwV 3 hts (kt_inV kt_w593 kt_w590 kt_w591 kt_w592 kt_w5) rfl rfl rfl (by decide +kernel) ⟨Nat.le_of_ble_eq_true rfl, Nat.le_of_ble_eq_true rfl⟩) (kq_preV ((ks_KZ_st (kl_M mo B cI D tys H0 H1) B mo cZ)) ((kl_KM hK hZM gM hom hI0 hII0 hZ0 he1 hm1)) (kq_recv hK hm1.1 rfl)) rfl rfl hl.1 rfl (lv_room (Nat.le_of_ble_eq_true rfl)) d_law_754 ⟨Nat.le_of_ble_eq_true rfl, Nat.le_of_ble_eq_true rfl⟩) (fun v9 H2 L2 hq2 hL2 => ?_)
  obtain ⟨rfl, hW2⟩ := hq2
  refine W.eq (g2 := F0 m 757 ls [.int (kq_z (!cs (kx3 (xs (i + 2))))), .int (kq_z (!bs (kx3 (xs (i + 2)))))]) rfl ?_
  refine va_forget (fun q hq => by
    have z := hL2 q hq
    have hh := kx_h_ge o ((decide (¬ xs (i + 3) = 0)))
    rw [z]
    omega) ?_
  have hX2 := ks_X_self hW2 (kl_FM gM hom hm1)
  obtain ⟨hm2, z2, off2⟩ := hm1.back gM hom hX2
  have hc2 := hc1.same (fun q q1 q2 => off2 q (Or.inl (by omega)))
  have hz2 : H2.size = o + 77 := z2.trans (off1.1.trans hz)
  have he2 : ∀ q, q < o → H2[q]? = H0[q]? := fun q hq => (off2 q (Or.inl (by omega))).trans (he1 q hq)
  have hI2 : kl_I o mo A B cL cR cS cI cII cZ D H0 H2 _ _ _ _ _ := ⟨hz2, he2, hc2, hm2, hR.reg (kx3_lt (xs (i + 1))) (by rw [e1, kq_up_at]; exact hR.take (kx3_lt (xs (i + 1))) (kx3_lt (xs (i + 2))) _) (fun q q1 _ _ => k1 q q1) (fun q q1 _ _ => kq_up_ne q1)⟩
  have hans : kq_z (!bs (kx3 (xs (i + 2)))) = kq_z (!cs (kx3 (xs (i + 2)))) := by rw [(hR _ (kx3_lt (xs (i + 2)))).2.1]
  refine lv_icmp_eq hx hb d_law_757 rfl (fun hq => ?_) (fun hq => ?_)
  · exact kk _ _ _ _ _ _ hI2
  · exact absurd hans hq
end
theorem d_law_762 : decode code 762 = .ok (.aload_n 1, 1) := by decide +kernel
theorem d_law_763 : decode code 763 = .ok (.aload_n 0, 1) := by decide +kernel
theorem d_law_764 : decode code 764 = .ok (.iload_n 3, 1) := by decide +kernel
theorem d_law_765 : decode code 765 = .ok (.iconst 1, 1) := by decide +kernel
theorem d_law_766 : decode code 766 = .ok (.iadd, 1) := by decide +kernel
theorem d_law_767 : decode code 767 = .ok (.iaload, 1) := by decide +kernel
theorem d_law_768 : decode code 768 = .ok (.aload_n 0, 1) := by decide +kernel
theorem d_law_769 : decode code 769 = .ok (.iload_n 3, 1) := by decide +kernel
theorem d_law_770 : decode code 770 = .ok (.iconst 2, 1) := by decide +kernel
theorem d_law_771 : decode code 771 = .ok (.iadd, 1) := by decide +kernel
theorem d_law_772 : decode code 772 = .ok (.iaload, 1) := by decide +kernel
theorem d_law_773 : decode code 773 = .ok (.invokevirtual 77, 3) := by decide +kernel
theorem d_law_776 : decode code 776 = .ok (.aload_n 2, 1) := by decide +kernel
theorem d_law_777 : decode code 777 = .ok (.aload_n 0, 1) := by decide +kernel
theorem d_law_778 : decode code 778 = .ok (.iload_n 3, 1) := by decide +kernel
theorem d_law_779 : decode code 779 = .ok (.iconst 1, 1) := by decide +kernel
theorem d_law_780 : decode code 780 = .ok (.iadd, 1) := by decide +kernel
theorem d_law_781 : decode code 781 = .ok (.iaload, 1) := by decide +kernel
theorem d_law_782 : decode code 782 = .ok (.aload_n 0, 1) := by decide +kernel
theorem d_law_783 : decode code 783 = .ok (.iload_n 3, 1) := by decide +kernel
theorem d_law_784 : decode code 784 = .ok (.iconst 2, 1) := by decide +kernel
theorem d_law_785 : decode code 785 = .ok (.iadd, 1) := by decide +kernel
theorem d_law_786 : decode code 786 = .ok (.iaload, 1) := by decide +kernel
theorem d_law_787 : decode code 787 = .ok (.invokevirtual 80, 3) := by decide +kernel
theorem d_law_790 : decode code 790 = .ok (.if_icmp .eq 5, 3) := by decide +kernel
theorem d_law_793 : decode code 793 = .ok (.iconst 0, 1) := by decide +kernel
theorem d_law_794 : decode code 794 = .ok (.ireturn, 1) := by decide +kernel
section
variable {p : Program} {l : Launch} {e : Env} {s : State} {m : MethodId} {args : Array Value} {below : List Frame} {meth : Method} {c : Code} {Q : State → Prop}
set_option maxHeartbeats 4000000 in
set_option maxRecDepth 100000 in
theorem lc_same (hx : p.tables.exec = Jvm.exec) (hb : c.code = code) (hml : c.maxLocals = 4) (hown : s.vm.findClass "KeyCurveLaw" = some m.cls) (hts : ∀ w ∈ kl_y :: kt_all, w.before args s = true)
    {o mo b L : Nat} {A B : Nat → Nat} {xs : Nat → Int32} {cL cR cS cI cII cZ : ClassId} {D : va_G} {tys : List (ClassId × FieldType)} {tL tR tS tI tII tZ : Nat} {H0 : Heap} (hG : kl_G o mo b L A B xs cL cR cS cI cII cZ D tys tL tR tS tI tII tZ H0 s)
    {H : Heap} {v w : Nat → Nat} {bs cs : Nat → Bool} {far : Bool} {i : Nat} {ls : Array Slot} (hI : kl_I o mo A B cL cR cS cI cII cZ D H0 H v w bs cs far) (hi : i + 5 ≤ L) (hl : lv_has ls 4 [(3, .int (nI i)), (2, .ref mo), (1, .ref o), (0, .ref b)])
    (kk : ∀ (H : Heap) (v w : Nat → Nat) (bs cs : Nat → Bool) (far : Bool), kl_I o mo A B cL cR cS cI cII cZ D H0 H v w bs cs far → W p l e room_1 s m args below meth c H [] 77 611 Q (F0 m 795 ls [])) : W p l e room_1 s m args below meth c H [] 77 611 Q (F0 m 762 ls []) := by
  obtain ⟨hz, he, hc, hm, hR⟩ := hI
  obtain ⟨hso, hmo, hL, hbo, hK, hN, hZC, gC, hZM, gM, hL0, hR0, hS0, hI0, hII0, hZ0, hX⟩ := hG
  have hom : o ≤ mo := by omega
  have hS := kl_kr (hX.kept (he b hbo))
  refine lv_aload_n hx hb d_law_762 rfl (lv_at hl 2 rfl) ?_
  refine lv_aload_n hx hb d_law_763 rfl (lv_at hl 3 rfl) ?_
  refine lv_iload_n hx hb d_law_764 rfl (lv_at hl 0 rfl) ?_
  refine lv_iconst (v := nI 1) hx hb d_law_765 (by decide) ?_
  refine lv_iadd hx hb d_law_766 ?_
  refine kq_ri (show (nI i) + (nI 1) = nI (i + 1) from nI_add i 1) ?_
  refine kq_iald hx hb hS (show i + 1 < L by omega) (by omega) rfl d_law_767 ?_
  refine lv_aload_n hx hb d_law_768 rfl (lv_at hl 3 rfl) ?_
  refine lv_iload_n hx hb d_law_769 rfl (lv_at hl 0 rfl) ?_
  refine lv_iconst (v := nI 2) hx hb d_law_770 (by decide) ?_
  refine lv_iadd hx hb d_law_771 ?_
  refine kq_ri (show (nI i) + (nI 2) = nI (i + 2) from nI_add i 2) ?_
  refine kq_iald hx hb hS (show i + 2 < L by omega) (by omega) rfl d_law_772 ?_
  refine kq_call (va_runV (As := [.int (xs (i + 1)), .int (xs (i + 2))]) (rest := []) ⟨hx, hb, hml, hown, hts⟩ (c_Ke_same l (kl_C o A cL D tys H0 H) A o bs v H (kl_okC gC hL0) (kl_AC gC) (kl_OC gC hc) (kl_WC hc) (xs (i + 1)) (xs (i + 2))) (cwV 2 hts (kt_inV kt_w366 kt_w363 kt_w364 kt_w365 kt_w1) rfl rfl rfl (by decide +kernel) ⟨Nat.le_of_ble_eq_true rfl, Nat.le_of_ble_eq_true rfl⟩) (kq_p2V ((kr_K_s2 (kl_C o A cL D tys H0 H) A o)) (kl_KC hK hN hZC gC hL0 hR0 hS0 he hc) (kq_recv hK hc.1 rfl)) rfl rfl hl.1 rfl (lv_room (Nat.le_of_ble_eq_true rfl)) d_law_773 ⟨Nat.le_of_ble_eq_true rfl, Nat.le_of_ble_eq_true rfl⟩) (fun v9 H1 L1 hq1 hL1 => ?_)
  obtain ⟨rfl, hW1⟩ := hq1
  refine W.eq (g2 := F0 m 776 ls [.int (kq_z (if (bs (kx3 (xs (i + 1))) || bs (kx3 (xs (i + 2)))) = true then (bs (kx3 (xs (i + 1))) && bs (kx3 (xs (i + 2)))) else decide (v (o + 7 + 3 * kx3 (xs (i + 1)) + 1) = v (o + 7 + 3 * kx3 (xs (i + 2)) + 1) ∧ v (o + 7 + 3 * kx3 (xs (i + 1)) + 2) = v (o + 7 + 3 * kx3 (xs (i + 2)) + 2))))]) rfl ?_
  refine va_forget (fun q hq => (hL1 q hq).elim) ?_
  have hc1 := hc.back hW1
  have off1 := kl_offC hW1
  have hm1 := hm.same (fun q q1 q2 => off1.2 q (Or.inr (by omega)))
  have he1 : ∀ q, q < o → H1[q]? = H0[q]? := fun q hq => (off1.2 q (Or.inl hq)).trans (he q hq)
  have hS1 := hS.other (H1 := H1) (off1.2 b (Or.inl hbo))
  have hS := hS1
  refine lv_aload_n hx hb d_law_776 rfl (lv_at hl 1 rfl) ?_
  refine lv_aload_n hx hb d_law_777 rfl (lv_at hl 3 rfl) ?_
  refine lv_iload_n hx hb d_law_778 rfl (lv_at hl 0 rfl) ?_
  refine lv_iconst (v := nI 1) hx hb d_law_779 (by decide) ?_
  refine lv_iadd hx hb d_law_780 ?_
  refine kq_ri (show (nI i) + (nI 1) = nI (i + 1) from nI_add i 1) ?_
  refine kq_iald hx hb hS (show i + 1 < L by omega) (by omega) rfl d_law_781 ?_
  refine lv_aload_n hx hb d_law_782 rfl (lv_at hl 3 rfl) ?_
  refine lv_iload_n hx hb d_law_783 rfl (lv_at hl 0 rfl) ?_
  refine lv_iconst (v := nI 2) hx hb d_law_784 (by decide) ?_
  refine lv_iadd hx hb d_law_785 ?_
  refine kq_ri (show (nI i) + (nI 2) = nI (i + 2) from nI_add i 2) ?_
  refine kq_iald hx hb hS (show i + 2 < L by omega) (by omega) rfl d_law_786 ?_
  refine kq_call (va_runV (As := [.int (xs (i + 1)), .int (xs (i + 2))]) (rest := [.int (kq_z (if (bs (kx3 (xs (i + 1))) || bs (kx3 (xs (i + 2)))) = true then (bs (kx3 (xs (i + 1))) && bs (kx3 (xs (i + 2)))) else decide (v (o + 7 + 3 * kx3 (xs (i + 1)) + 1) = v (o + 7 + 3 * kx3 (xs (i + 2)) + 1) ∧ v (o + 7 + 3 * kx3 (xs (i + 1)) + 2) = v (o + 7 + 3 * kx3 (xs (i + 2)) + 2))))]) ⟨hx, hb, hml, hown, hts⟩ (c_Mo_same l (kl_M mo B cI D tys H0 H1) B mo cZ far cs w H1 (kl_okM gM hom hI0) (kl_AM gM hom) kl_GM (kl_FM (tys := tys) gM hom hm1) (kl_WM hm1) (xs (i + 1)) (xs (i + 2))) (cwV 2 hts (kt_inV kt_w597 kt_w594 kt_w595 kt_w596 kt_w5) rfl rfl rfl (by decide +kernel) ⟨Nat.le_of_ble_eq_true rfl, Nat.le_of_ble_eq_true rfl⟩) (kq_preV ((ks_KZ_st (kl_M mo B cI D tys H0 H1) B mo cZ)) ((kl_KM hK hZM gM hom hI0 hII0 hZ0 he1 hm1)) (kq_recv hK hm1.1 rfl)) rfl rfl hl.1 rfl (lv_room (Nat.le_of_ble_eq_true rfl)) d_law_787 ⟨Nat.le_of_ble_eq_true rfl, Nat.le_of_ble_eq_true rfl⟩) (fun v9 H2 L2 hq2 hL2 => ?_)
  obtain ⟨rfl, rfl⟩ := hq2
  refine W.eq (g2 := F0 m 790 ls [.int (kq_z (kx_same (cs (kx3 (xs (i + 1)))) (cs (kx3 (xs (i + 2)))) (w (mo + 7 + kx3 (xs (i + 1)))) (w (mo + 7 + kx3 (xs (i + 2)))) (w (mo + 12 + kx3 (xs (i + 1)))) (w (mo + 12 + kx3 (xs (i + 2)))))), .int (kq_z (if (bs (kx3 (xs (i + 1))) || bs (kx3 (xs (i + 2)))) = true then (bs (kx3 (xs (i + 1))) && bs (kx3 (xs (i + 2)))) else decide (v (o + 7 + 3 * kx3 (xs (i + 1)) + 1) = v (o + 7 + 3 * kx3 (xs (i + 2)) + 1) ∧ v (o + 7 + 3 * kx3 (xs (i + 1)) + 2) = v (o + 7 + 3 * kx3 (xs (i + 2)) + 2))))]) rfl ?_
  refine va_forget (fun q hq => (hL2 q hq).elim) ?_
  have hm2 := hm1
  have hc2 := hc1
  have hz2 : H2.size = o + 77 := off1.1.trans hz
  have he2 := he1
  have hI2 : kl_I o mo A B cL cR cS cI cII cZ D H0 H2 _ _ _ _ _ := ⟨hz2, he2, hc2, hm2, hR⟩
  have hans : kq_z (if (bs (kx3 (xs (i + 1))) || bs (kx3 (xs (i + 2)))) = true then (bs (kx3 (xs (i + 1))) && bs (kx3 (xs (i + 2)))) else decide (v (o + 7 + 3 * kx3 (xs (i + 1)) + 1) = v (o + 7 + 3 * kx3 (xs (i + 2)) + 1) ∧ v (o + 7 + 3 * kx3 (xs (i + 1)) + 2) = v (o + 7 + 3 * kx3 (xs (i + 2)) + 2))) = kq_z (kx_same (cs (kx3 (xs (i + 1)))) (cs (kx3 (xs (i + 2)))) (w (mo + 7 + kx3 (xs (i + 1)))) (w (mo + 7 + kx3 (xs (i + 2)))) (w (mo + 12 + kx3 (xs (i + 1)))) (w (mo + 12 + kx3 (xs (i + 2))))) := by rw [hR.same (kx3_lt (xs (i + 1))) (kx3_lt (xs (i + 2)))]
  refine lv_icmp_eq hx hb d_law_790 rfl (fun hq => ?_) (fun hq => ?_)
  · exact kk _ _ _ _ _ _ hI2
  · exact absurd hans hq
end
