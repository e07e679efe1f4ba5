/-! The law: its calls, on (own rows). -/
theorem d_law_385 : decode code 385 = .ok (.aload_n 1, 1) := by decide +kernel
theorem d_law_386 : decode code 386 = .ok (.aload_n 0, 1) := by decide +kernel
theorem d_law_387 : decode code 387 = .ok (.iload_n 3, 1) := by decide +kernel
theorem d_law_388 : decode code 388 = .ok (.iconst 1, 1) := by decide +kernel
theorem d_law_389 : decode code 389 = .ok (.iadd, 1) := by decide +kernel
theorem d_law_390 : decode code 390 = .ok (.iaload, 1) := by decide +kernel
theorem d_law_391 : decode code 391 = .ok (.aload_n 0, 1) := by decide +kernel
theorem d_law_392 : decode code 392 = .ok (.iload_n 3, 1) := by decide +kernel
theorem d_law_393 : decode code 393 = .ok (.iconst 2, 1) := by decide +kernel
theorem d_law_394 : decode code 394 = .ok (.iadd, 1) := by decide +kernel
theorem d_law_395 : decode code 395 = .ok (.iaload, 1) := by decide +kernel
theorem d_law_396 : decode code 396 = .ok (.aload_n 0, 1) := by decide +kernel
theorem d_law_397 : decode code 397 = .ok (.iload_n 3, 1) := by decide +kernel
theorem d_law_398 : decode code 398 = .ok (.iconst 3, 1) := by decide +kernel
theorem d_law_399 : decode code 399 = .ok (.iadd, 1) := by decide +kernel
theorem d_law_400 : decode code 400 = .ok (.iaload, 1) := by decide +kernel
theorem d_law_401 : decode code 401 = .ok (.ifCond .eq 7, 3) := by decide +kernel
theorem d_law_404 : decode code 404 = .ok (.iconst 1, 1) := by decide +kernel
theorem d_law_405 : decode code 405 = .ok (.goto 4, 3) := by decide +kernel
theorem d_law_408 : decode code 408 = .ok (.iconst 0, 1) := by decide +kernel
theorem d_law_409 : decode code 409 = .ok (.invokevirtual 36, 3) := by decide +kernel
theorem d_law_412 : decode code 412 = .ok (.aload_n 2, 1) := by decide +kernel
theorem d_law_413 : decode code 413 = .ok (.aload_n 0, 1) := by decide +kernel
theorem d_law_414 : decode code 414 = .ok (.iload_n 3, 1) := by decide +kernel
theorem d_law_415 : decode code 415 = .ok (.iconst 1, 1) := by decide +kernel
theorem d_law_416 : decode code 416 = .ok (.iadd, 1) := by decide +kernel
theorem d_law_417 : decode code 417 = .ok (.iaload, 1) := by decide +kernel
theorem d_law_418 : decode code 418 = .ok (.aload_n 0, 1) := by decide +kernel
theorem d_law_419 : decode code 419 = .ok (.iload_n 3, 1) := by decide +kernel
theorem d_law_420 : decode code 420 = .ok (.iconst 2, 1) := by decide +kernel
theorem d_law_421 : decode code 421 = .ok (.iadd, 1) := by decide +kernel
theorem d_law_422 : decode code 422 = .ok (.iaload, 1) := by decide +kernel
theorem d_law_423 : decode code 423 = .ok (.aload_n 0, 1) := by decide +kernel
theorem d_law_424 : decode code 424 = .ok (.iload_n 3, 1) := by decide +kernel
theorem d_law_425 : decode code 425 = .ok (.iconst 3, 1) := by decide +kernel
theorem d_law_426 : decode code 426 = .ok (.iadd, 1) := by decide +kernel
theorem d_law_427 : decode code 427 = .ok (.iaload, 1) := by decide +kernel
theorem d_law_428 : decode code 428 = .ok (.ifCond .eq 7, 3) := by decide +kernel
theorem d_law_431 : decode code 431 = .ok (.iconst 1, 1) := by decide +kernel
theorem d_law_432 : decode code 432 = .ok (.goto 4, 3) := by decide +kernel
theorem d_law_435 : decode code 435 = .ok (.iconst 0, 1) := by decide +kernel
theorem d_law_436 : decode code 436 = .ok (.invokevirtual 40, 3) := by decide +kernel
theorem d_law_439 : decode code 439 = .ok (.if_icmp .eq 356, 3) := by decide +kernel
theorem d_law_442 : decode code 442 = .ok (.iconst 0, 1) := by decide +kernel
theorem d_law_443 : decode code 443 = .ok (.ireturn, 1) := by decide +kernel
section
variable {p : Program} {l : Launch} {e : Env} {s : State} {m : MethodId} {args : Array Value} {below : List Frame} {meth : Method} {c : Code} {Q : State → Prop}
set_option maxHeartbeats 4000000 in
set_option maxRecDepth 100000 in
theorem lc_invert (hx : p.tables.exec = Jvm.exec) (hb : c.code = code) (hml : c.maxLocals = 4) (hown : s.vm.findClass "KeyCurveLaw" = some m.cls) (hts : ∀ w ∈ kl_y :: kt_all, w.before args s = true)
    {o mo b L : Nat} {A B : Nat → Nat} {xs : Nat → Int32} {cL cR cS cI cII cZ : ClassId} {D : va_G} {tys : List (ClassId × FieldType)} {tL tR tS tI tII tZ : Nat} {H0 : Heap} (hG : kl_G o mo b L A B xs cL cR cS cI cII cZ D tys tL tR tS tI tII tZ H0 s)
    {H : Heap} {v w : Nat → Nat} {bs cs : Nat → Bool} {far : Bool} {i : Nat} {ls : Array Slot} (hI : kl_I o mo A B cL cR cS cI cII cZ D H0 H v w bs cs far) (hi : i + 5 ≤ L) (hl : lv_has ls 4 [(3, .int (nI i)), (2, .ref mo), (1, .ref o), (0, .ref b)])
    (kk : ∀ (H : Heap) (v w : Nat → Nat) (bs cs : Nat → Bool) (far : Bool), kl_I o mo A B cL cR cS cI cII cZ D H0 H v w bs cs far → W p l e room_1 s m args below meth c H [] 77 611 Q (F0 m 795 ls [])) : W p l e room_1 s m args below meth c H [] 77 611 Q (F0 m 385 ls []) := by
  obtain ⟨hz, he, hc, hm, hR⟩ := hI
  obtain ⟨hso, hmo, hL, hbo, hK, hN, hZC, gC, hZM, gM, hL0, hR0, hS0, hI0, hII0, hZ0, hX⟩ := hG
  have hom : o ≤ mo := by omega
  have hS := kl_kr (hX.kept (he b hbo))
  refine lv_aload_n hx hb d_law_385 rfl (lv_at hl 2 rfl) ?_
  refine lv_aload_n hx hb d_law_386 rfl (lv_at hl 3 rfl) ?_
  refine lv_iload_n hx hb d_law_387 rfl (lv_at hl 0 rfl) ?_
  refine lv_iconst (v := nI 1) hx hb d_law_388 (by decide) ?_
  refine lv_iadd hx hb d_law_389 ?_
  refine kq_ri (show (nI i) + (nI 1) = nI (i + 1) from nI_add i 1) ?_
  refine kq_iald hx hb hS (show i + 1 < L by omega) (by omega) rfl d_law_390 ?_
  refine lv_aload_n hx hb d_law_391 rfl (lv_at hl 3 rfl) ?_
  refine lv_iload_n hx hb d_law_392 rfl (lv_at hl 0 rfl) ?_
  refine lv_iconst (v := nI 2) hx hb d_law_393 (by decide) ?_
  refine lv_iadd hx hb d_law_394 ?_
  refine kq_ri (show (nI i) + (nI 2) = nI (i + 2) from nI_add i 2) ?_
  refine kq_iald hx hb hS (show i + 2 < L by omega) (by omega) rfl d_law_395 ?_
  refine lv_aload_n hx hb d_law_396 rfl (lv_at hl 3 rfl) ?_
  refine lv_iload_n hx hb d_law_397 rfl (lv_at hl 0 rfl) ?_
  refine lv_iconst (v := nI 3) hx hb d_law_398 (by decide) ?_
  refine lv_iadd hx hb d_law_399 ?_
  refine kq_ri (show (nI i) + (nI 3) = nI (i + 3) from nI_add i 3) ?_
  refine kq_iald hx hb hS (show i + 3 < L by omega) (by omega) rfl d_law_400 ?_
  refine kl_flag hx hb d_law_401 rfl d_law_404 d_law_405 rfl d_law_408 rfl ?_
  refine kq_call (va_runV (As := [.int (xs (i + 1)), .int (xs (i + 2)), .int (kq_z (decide (¬ xs (i + 3) = 0)))]) (rest := []) ⟨hx, hb, hml, hown, hts⟩ (c_Ke_invert l (kl_C o A cL D tys H0 H) A o bs v H (kl_okC gC hL0) (kl_AC gC) (kl_OC gC hc) (kl_WC hc) (xs (i + 1)) (xs (i + 2)) (decide (¬ xs (i + 3) = 0))) (cwV 3 hts (kt_inV kt_w229 kt_w226 kt_w227 kt_w228 kt_w1) rfl rfl rfl (by decide +kernel) ⟨Nat.le_of_ble_eq_true rfl, Nat.le_of_ble_eq_true rfl⟩) (kq_p2V ((kr_K_s2 (kl_C o A cL D tys H0 H) A o)) (kl_KC hK hN hZC gC hL0 hR0 hS0 he hc) (kq_recv hK hc.1 rfl)) rfl rfl hl.1 rfl (lv_room (Nat.le_of_ble_eq_true rfl)) d_law_409 ⟨Nat.le_of_ble_eq_true rfl, Nat.le_of_ble_eq_true rfl⟩) (fun v9 H1 L1 hq1 hL1 => ?_)
  obtain ⟨rfl, v1, hW1, e1, k1⟩ := hq1
  refine W.eq (g2 := F0 m 412 ls [.int (kq_z (decide (¬ v (o + 2 + kx3 (xs (i + 2))) % kx_m (decide (¬ xs (i + 3) = 0)) = 0)))]) rfl ?_
  refine va_forget (fun q hq => by
    have z := hL1 q hq
    have hh := kx_h_ge o ((decide (¬ xs (i + 3) = 0)))
    rcases z with z | z | z | z | z | z
    · rw [z]
      omega
    · rw [z]
      omega
    · rw [z]
      omega
    · rw [z]
      omega
    · rw [z]
      omega
    · rw [z]
      omega) ?_
  have hc1 := hc.back hW1
  have off1 := kl_offC hW1
  have hm1 := hm.same (fun q q1 q2 => off1.2 q (Or.inr (by omega)))
  have he1 : ∀ q, q < o → H1[q]? = H0[q]? := fun q hq => (off1.2 q (Or.inl hq)).trans (he q hq)
  have hS1 := hS.other (H1 := H1) (off1.2 b (Or.inl hbo))
  have hS := hS1
  refine lv_aload_n hx hb d_law_412 rfl (lv_at hl 1 rfl) ?_
  refine lv_aload_n hx hb d_law_413 rfl (lv_at hl 3 rfl) ?_
  refine lv_iload_n hx hb d_law_414 rfl (lv_at hl 0 rfl) ?_
  refine lv_iconst (v := nI 1) hx hb d_law_415 (by decide) ?_
  refine lv_iadd hx hb d_law_416 ?_
  refine kq_ri (show (nI i) + (nI 1) = nI (i + 1) from nI_add i 1) ?_
  refine kq_iald hx hb hS (show i + 1 < L by omega) (by omega) rfl d_law_417 ?_
  refine lv_aload_n hx hb d_law_418 rfl (lv_at hl 3 rfl) ?_
  refine lv_iload_n hx hb d_law_419 rfl (lv_at hl 0 rfl) ?_
  refine lv_iconst (v := nI 2) hx hb d_law_420 (by decide) ?_
  refine lv_iadd hx hb d_law_421 ?_
  refine kq_ri (show (nI i) + (nI 2) = nI (i + 2) from nI_add i 2) ?_
  refine kq_iald hx hb hS (show i + 2 < L by omega) (by omega) rfl d_law_422 ?_
  refine lv_aload_n hx hb d_law_423 rfl (lv_at hl 3 rfl) ?_
  refine lv_iload_n hx hb d_law_424 rfl (lv_at hl 0 rfl) ?_
  refine lv_iconst (v := nI 3) hx hb d_law_425 (by decide) ?_
  refine lv_iadd hx hb d_law_426 ?_
  refine kq_ri (show (nI i) + (nI 3) = nI (i + 3) from nI_add i 3) ?_
  refine kq_iald hx hb hS (show i + 3 < L by omega) (by omega) rfl d_law_427 ?_
  refine kl_flag hx hb d_law_428 rfl d_law_431 d_law_432 rfl d_law_435 rfl ?_
  refine kq_call (va_runV (As := [.int (xs (i + 1)), .int (xs (i + 2)), .int (kq_z (decide (¬ xs (i + 3) = 0)))]) (rest := [.int (kq_z (decide (¬ v (o + 2 + kx3 (xs (i + 2))) % kx_m (decide (¬ xs (i + 3) = 0)) = 0)))]) ⟨hx, hb, hml, hown, hts⟩ (c_Mo_invert l (kl_M mo B cI D tys H0 H1) B mo far w H1 (kl_okM gM hom hI0) (kl_AM gM hom) (kl_FM (tys := tys) gM hom hm1).1 kl_GM (kl_WM hm1) (xs (i + 1)) (xs (i + 2)) (decide (¬ xs (i + 3) = 0))) (cwV 3 hts (kt_inV kt_w504 kt_w501 kt_w502 kt_w503 kt_w5) rfl rfl rfl (by decide +kernel) ⟨Nat.le_of_ble_eq_true rfl, Nat.le_of_ble_eq_true rfl⟩) (kq_preV ((ks_K_st (kl_M mo B cI D tys H0 H1) B mo)) ((kl_KM hK hZM gM hom hI0 hII0 hZ0 he1 hm1).1) (kq_recv hK hm1.1 rfl)) rfl rfl hl.1 rfl (lv_room (Nat.le_of_ble_eq_true rfl)) d_law_436 ⟨Nat.le_of_ble_eq_true rfl, Nat.le_of_ble_eq_true rfl⟩) (fun v9 H2 L2 hq2 hL2 => ?_)
  obtain ⟨rfl, w2, hW2, e2, k2⟩ := hq2
  refine W.eq (g2 := F0 m 439 ls [.int (kq_z (decide (¬ w (mo + 2 + kx3 (xs (i + 2))) % kx_m (decide (¬ xs (i + 3) = 0)) = 0))), .int (kq_z (decide (¬ v (o + 2 + kx3 (xs (i + 2))) % kx_m (decide (¬ xs (i + 3) = 0)) = 0)))]) rfl ?_
  refine va_forget (fun q hq => by
    have z := hL2 q hq
    have hh := kx_h_ge o ((decide (¬ xs (i + 3) = 0)))
    rcases z with z | z
    · rw [z]
      omega
    · unfold ks_fr at z
      omega) ?_
  have hX2 := ks_X_self hW2 (kl_FM gM hom hm1)
  obtain ⟨hm2, z2, off2⟩ := hm1.back gM hom hX2
  have hc2 := hc1.same (fun q q1 q2 => off2 q (Or.inl (by omega)))
  have hz2 : H2.size = o + 77 := z2.trans (off1.1.trans hz)
  have he2 : ∀ q, q < o → H2[q]? = H0[q]? := fun q hq => (off2 q (Or.inl (by omega))).trans (he1 q hq)
  have hI2 : kl_I o mo A B cL cR cS cI cII cZ D H0 H2 _ _ _ _ _ := ⟨hz2, he2, hc2, hm2, hR.reg (kx3_lt (xs (i + 1))) (by rw [e1, e2, (hR _ (kx3_lt (xs (i + 2)))).1, (hR _ (kx3_lt (xs (i + 1)))).1]) (fun q q1 q2 q3 => k1 q q1 (by have := kx_h_ge o ((decide (¬ xs (i + 3) = 0))); omega) (by have := kx_h_ge o ((decide (¬ xs (i + 3) = 0))); omega) (by have := kx_h_ge o ((decide (¬ xs (i + 3) = 0))); omega) (by have := kx_h_ge o ((decide (¬ xs (i + 3) = 0))); omega) (by have := kx_h_ge o ((decide (¬ xs (i + 3) = 0))); omega)) (fun q q1 q2 q3 => k2 q q1 (by unfold ks_fr; omega))⟩
  have hans : kq_z (decide (¬ v (o + 2 + kx3 (xs (i + 2))) % kx_m (decide (¬ xs (i + 3) = 0)) = 0)) = kq_z (decide (¬ w (mo + 2 + kx3 (xs (i + 2))) % kx_m (decide (¬ xs (i + 3) = 0)) = 0)) := by rw [(hR _ (kx3_lt (xs (i + 2)))).1]
  refine lv_icmp_eq hx hb d_law_439 rfl (fun hq => ?_) (fun hq => ?_)
  · exact kk _ _ _ _ _ _ hI2
  · exact absurd hans hq
end
theorem d_law_444 : decode code 444 = .ok (.aload_n 1, 1) := by decide +kernel
theorem d_law_445 : decode code 445 = .ok (.aload_n 0, 1) := by decide +kernel
theorem d_law_446 : decode code 446 = .ok (.iload_n 3, 1) := by decide +kernel
theorem d_law_447 : decode code 447 = .ok (.iconst 1, 1) := by decide +kernel
theorem d_law_448 : decode code 448 = .ok (.iadd, 1) := by decide +kernel
theorem d_law_449 : decode code 449 = .ok (.iaload, 1) := by decide +kernel
theorem d_law_450 : decode code 450 = .ok (.aload_n 0, 1) := by decide +kernel
theorem d_law_451 : decode code 451 = .ok (.iload_n 3, 1) := by decide +kernel
theorem d_law_452 : decode code 452 = .ok (.iconst 2, 1) := by decide +kernel
theorem d_law_453 : decode code 453 = .ok (.iadd, 1) := by decide +kernel
theorem d_law_454 : decode code 454 = .ok (.iaload, 1) := by decide +kernel
theorem d_law_455 : decode code 455 = .ok (.invokevirtual 41, 3) := by decide +kernel
theorem d_law_458 : decode code 458 = .ok (.aload_n 2, 1) := by decide +kernel
theorem d_law_459 : decode code 459 = .ok (.aload_n 0, 1) := by decide +kernel
theorem d_law_460 : decode code 460 = .ok (.iload_n 3, 1) := by decide +kernel
theorem d_law_461 : decode code 461 = .ok (.iconst 1, 1) := by decide +kernel
theorem d_law_462 : decode code 462 = .ok (.iadd, 1) := by decide +kernel
theorem d_law_463 : decode code 463 = .ok (.iaload, 1) := by decide +kernel
theorem d_law_464 : decode code 464 = .ok (.aload_n 0, 1) := by decide +kernel
theorem d_law_465 : decode code 465 = .ok (.iload_n 3, 1) := by decide +kernel
theorem d_law_466 : decode code 466 = .ok (.iconst 2, 1) := by decide +kernel
theorem d_law_467 : decode code 467 = .ok (.iadd, 1) := by decide +kernel
theorem d_law_468 : decode code 468 = .ok (.iaload, 1) := by decide +kernel
theorem d_law_469 : decode code 469 = .ok (.invokevirtual 45, 3) := by decide +kernel
theorem d_law_472 : decode code 472 = .ok (.if_icmp .eq 323, 3) := by decide +kernel
theorem d_law_475 : decode code 475 = .ok (.iconst 0, 1) := by decide +kernel
theorem d_law_476 : decode code 476 = .ok (.ireturn, 1) := by decide +kernel
section
variable {p : Program} {l : Launch} {e : Env} {s : State} {m : MethodId} {args : Array Value} {below : List Frame} {meth : Method} {c : Code} {Q : State → Prop}
set_option maxHeartbeats 4000000 in
set_option maxRecDepth 100000 in
theorem lc_root (hx : p.tables.exec = Jvm.exec) (hb : c.code = code) (hml : c.maxLocals = 4) (hown : s.vm.findClass "KeyCurveLaw" = some m.cls) (hts : ∀ w ∈ kl_y :: kt_all, w.before args s = true)
    {o mo b L : Nat} {A B : Nat → Nat} {xs : Nat → Int32} {cL cR cS cI cII cZ : ClassId} {D : va_G} {tys : List (ClassId × FieldType)} {tL tR tS tI tII tZ : Nat} {H0 : Heap} (hG : kl_G o mo b L A B xs cL cR cS cI cII cZ D tys tL tR tS tI tII tZ H0 s)
    {H : Heap} {v w : Nat → Nat} {bs cs : Nat → Bool} {far : Bool} {i : Nat} {ls : Array Slot} (hI : kl_I o mo A B cL cR cS cI cII cZ D H0 H v w bs cs far) (hi : i + 5 ≤ L) (hl : lv_has ls 4 [(3, .int (nI i)), (2, .ref mo), (1, .ref o), (0, .ref b)])
    (kk : ∀ (H : Heap) (v w : Nat → Nat) (bs cs : Nat → Bool) (far : Bool), kl_I o mo A B cL cR cS cI cII cZ D H0 H v w bs cs far → W p l e room_1 s m args below meth c H [] 77 611 Q (F0 m 795 ls [])) : W p l e room_1 s m args below meth c H [] 77 611 Q (F0 m 444 ls []) := by
  obtain ⟨hz, he, hc, hm, hR⟩ := hI
  obtain ⟨hso, hmo, hL, hbo, hK, hN, hZC, gC, hZM, gM, hL0, hR0, hS0, hI0, hII0, hZ0, hX⟩ := hG
  have hom : o ≤ mo := by omega
  have hS := kl_kr (hX.kept (he b hbo))
  refine lv_aload_n hx hb d_law_444 rfl (lv_at hl 2 rfl) ?_
  refine lv_aload_n hx hb d_law_445 rfl (lv_at hl 3 rfl) ?_
  refine lv_iload_n hx hb d_law_446 rfl (lv_at hl 0 rfl) ?_
  refine lv_iconst (v := nI 1) hx hb d_law_447 (by decide) ?_
  refine lv_iadd hx hb d_law_448 ?_
  refine kq_ri (show (nI i) + (nI 1) = nI (i + 1) from nI_add i 1) ?_
  refine kq_iald hx hb hS (show i + 1 < L by omega) (by omega) rfl d_law_449 ?_
  refine lv_aload_n hx hb d_law_450 rfl (lv_at hl 3 rfl) ?_
  refine lv_iload_n hx hb d_law_451 rfl (lv_at hl 0 rfl) ?_
  refine lv_iconst (v := nI 2) hx hb d_law_452 (by decide) ?_
  refine lv_iadd hx hb d_law_453 ?_
  refine kq_ri (show (nI i) + (nI 2) = nI (i + 2) from nI_add i 2) ?_
  refine kq_iald hx hb hS (show i + 2 < L by omega) (by omega) rfl d_law_454 ?_
  refine kq_call (va_runV (As := [.int (xs (i + 1)), .int (xs (i + 2))]) (rest := []) ⟨hx, hb, hml, hown, hts⟩ (c_Ke_root l (kl_C o A cL D tys H0 H) A o bs v H (kl_okC gC hL0) (kl_AC gC) (kl_OC gC hc) (kl_WC hc) (xs (i + 1)) (xs (i + 2))) (cwV 2 hts (kt_inV kt_w250 kt_w247 kt_w248 kt_w249 kt_w1) rfl rfl rfl (by decide +kernel) ⟨Nat.le_of_ble_eq_true rfl, Nat.le_of_ble_eq_true rfl⟩) (kq_p2V ((kr_K_s2 (kl_C o A cL D tys H0 H) A o)) (kl_KC hK hN hZC gC hL0 hR0 hS0 he hc) (kq_recv hK hc.1 rfl)) rfl rfl hl.1 rfl (lv_room (Nat.le_of_ble_eq_true rfl)) d_law_455 ⟨Nat.le_of_ble_eq_true rfl, Nat.le_of_ble_eq_true rfl⟩) (fun v9 H1 L1 hq1 hL1 => ?_)
  obtain ⟨rfl, v1, hW1, e1, k1⟩ := hq1
  refine W.eq (g2 := F0 m 458 ls [.int (kq_z (decide (kc_root (v (o + 2 + kx3 (xs (i + 2)))) * kc_root (v (o + 2 + kx3 (xs (i + 2)))) % kP = v (o + 2 + kx3 (xs (i + 2))) % kP)))]) rfl ?_
  refine va_forget (fun q hq => by
    have z := hL1 q hq
    have hh := kx_h_ge o (true)
    rcases z with z | z
    · rw [z]
      omega
    · unfold kr_fr at z
      omega) ?_
  have hc1 := hc.back hW1
  have off1 := kl_offC hW1
  have hm1 := hm.same (fun q q1 q2 => off1.2 q (Or.inr (by omega)))
  have he1 : ∀ q, q < o → H1[q]? = H0[q]? := fun q hq => (off1.2 q (Or.inl hq)).trans (he q hq)
  have hS1 := hS.other (H1 := H1) (off1.2 b (Or.inl hbo))
  have hS := hS1
  refine lv_aload_n hx hb d_law_458 rfl (lv_at hl 1 rfl) ?_
  refine lv_aload_n hx hb d_law_459 rfl (lv_at hl 3 rfl) ?_
  refine lv_iload_n hx hb d_law_460 rfl (lv_at hl 0 rfl) ?_
  refine lv_iconst (v := nI 1) hx hb d_law_461 (by decide) ?_
  refine lv_iadd hx hb d_law_462 ?_
  refine kq_ri (show (nI i) + (nI 1) = nI (i + 1) from nI_add i 1) ?_
  refine kq_iald hx hb hS (show i + 1 < L by omega) (by omega) rfl d_law_463 ?_
  refine lv_aload_n hx hb d_law_464 rfl (lv_at hl 3 rfl) ?_
  refine lv_iload_n hx hb d_law_465 rfl (lv_at hl 0 rfl) ?_
  refine lv_iconst (v := nI 2) hx hb d_law_466 (by decide) ?_
  refine lv_iadd hx hb d_law_467 ?_
  refine kq_ri (show (nI i) + (nI 2) = nI (i + 2) from nI_add i 2) ?_
  refine kq_iald hx hb hS (show i + 2 < L by omega) (by omega) rfl d_law_468 ?_
  refine kq_call (va_runV (As := [.int (xs (i + 1)), .int (xs (i + 2))]) (rest := [.int (kq_z (decide (kc_root (v (o + 2 + kx3 (xs (i + 2)))) * kc_root (v (o + 2 + kx3 (xs (i + 2)))) % kP = v (o + 2 + kx3 (xs (i + 2))) % kP)))]) ⟨hx, hb, hml, hown, hts⟩ (c_Mo_root l (kl_M mo B cI D tys H0 H1) B mo far w H1 (kl_okM gM hom hI0) (kl_AM gM hom) (kl_FM (tys := tys) gM hom hm1).1 kl_GM (kl_WM hm1) (xs (i + 1)) (xs (i + 2))) (cwV 2 hts (kt_inV kt_w521 kt_w518 kt_w519 kt_w520 kt_w5) rfl rfl rfl (by decide +kernel) ⟨Nat.le_of_ble_eq_true rfl, Nat.le_of_ble_eq_true rfl⟩) (kq_preV ((ks_K_st (kl_M mo B cI D tys H0 H1) B mo)) ((kl_KM hK hZM gM hom hI0 hII0 hZ0 he1 hm1).1) (kq_recv hK hm1.1 rfl)) rfl rfl hl.1 rfl (lv_room (Nat.le_of_ble_eq_true rfl)) d_law_469 ⟨Nat.le_of_ble_eq_true rfl, Nat.le_of_ble_eq_true rfl⟩) (fun v9 H2 L2 hq2 hL2 => ?_)
  obtain ⟨rfl, w2, hW2, e2, k2⟩ := hq2
  refine W.eq (g2 := F0 m 472 ls [.int (kq_z (decide (kc_root (w (mo + 2 + kx3 (xs (i + 2)))) * kc_root (w (mo + 2 + kx3 (xs (i + 2)))) % kP = w (mo + 2 + kx3 (xs (i + 2))) % kP))), .int (kq_z (decide (kc_root (v (o + 2 + kx3 (xs (i + 2)))) * kc_root (v (o + 2 + kx3 (xs (i + 2)))) % kP = v (o + 2 + kx3 (xs (i + 2))) % kP)))]) rfl ?_
  refine va_forget (fun q hq => by
    have z := hL2 q hq
    have hh := kx_h_ge o (true)
    rcases z with z | z
    · rw [z]
      omega
    · unfold ks_fr at z
      omega) ?_
  have hX2 := ks_X_self hW2 (kl_FM gM hom hm1)
  obtain ⟨hm2, z2, off2⟩ := hm1.back gM hom hX2
  have hc2 := hc1.same (fun q q1 q2 => off2 q (Or.inl (by omega)))
  have hz2 : H2.size = o + 77 := z2.trans (off1.1.trans hz)
  have he2 : ∀ q, q < o → H2[q]? = H0[q]? := fun q hq => (off2 q (Or.inl (by omega))).trans (he1 q hq)
  have hI2 : kl_I o mo A B cL cR cS cI cII cZ D H0 H2 _ _ _ _ _ := ⟨hz2, he2, hc2, hm2, hR.reg (kx3_lt (xs (i + 1))) (by rw [e1, e2, (hR _ (kx3_lt (xs (i + 2)))).1, (hR _ (kx3_lt (xs (i + 1)))).1]) (fun q q1 q2 q3 => k1 q q1 (by unfold kr_fr; omega)) (fun q q1 q2 q3 => k2 q q1 (by unfold ks_fr; omega))⟩
  have hans : kq_z (decide (kc_root (v (o + 2 + kx3 (xs (i + 2)))) * kc_root (v (o + 2 + kx3 (xs (i + 2)))) % kP = v (o + 2 + kx3 (xs (i + 2))) % kP)) = kq_z (decide (kc_root (w (mo + 2 + kx3 (xs (i + 2)))) * kc_root (w (mo + 2 + kx3 (xs (i + 2)))) % kP = w (mo + 2 + kx3 (xs (i + 2))) % kP)) := by rw [(hR _ (kx3_lt (xs (i + 2)))).1]
  refine lv_icmp_eq hx hb d_law_472 rfl (fun hq => ?_) (fun hq => ?_)
  · exact kk _ _ _ _ _ _ hI2
  · exact absurd hans hq
end
theorem d_law_477 : decode code 477 = .ok (.aload_n 1, 1) := by decide +kernel
theorem d_law_478 : decode code 478 = .ok (.aload_n 0, 1) := by decide +kernel
theorem d_law_479 : decode code 479 = .ok (.iload_n 3, 1) := by decide +kernel
theorem d_law_480 : decode code 480 = .ok (.iconst 1, 1) := by decide +kernel
theorem d_law_481 : decode code 481 = .ok (.iadd, 1) := by decide +kernel
theorem d_law_482 : decode code 482 = .ok (.iaload, 1) := by decide +kernel
theorem d_law_483 : decode code 483 = .ok (.invokevirtual 46, 3) := by decide +kernel
theorem d_law_486 : decode code 486 = .ok (.aload_n 2, 1) := by decide +kernel
theorem d_law_487 : decode code 487 = .ok (.aload_n 0, 1) := by decide +kernel
theorem d_law_488 : decode code 488 = .ok (.iload_n 3, 1) := by decide +kernel
theorem d_law_489 : decode code 489 = .ok (.iconst 1, 1) := by decide +kernel
theorem d_law_490 : decode code 490 = .ok (.iadd, 1) := by decide +kernel
theorem d_law_491 : decode code 491 = .ok (.iaload, 1) := by decide +kernel
theorem d_law_492 : decode code 492 = .ok (.invokevirtual 50, 3) := by decide +kernel
theorem d_law_495 : decode code 495 = .ok (.goto 300, 3) := by decide +kernel
section
variable {p : Program} {l : Launch} {e : Env} {s : State} {m : MethodId} {args : Array Value} {below : List Frame} {meth : Method} {c : Code} {Q : State → Prop}
set_option maxHeartbeats 4000000 in
set_option maxRecDepth 100000 in
theorem lc_base (hx : p.tables.exec = Jvm.exec) (hb : c.code = code) (hml : c.maxLocals = 4) (hown : s.vm.findClass "KeyCurveLaw" = some m.cls) (hts : ∀ w ∈ kl_y :: kt_all, w.before args s = true)
    {o mo b L : Nat} {A B : Nat → Nat} {xs : Nat → Int32} {cL cR cS cI cII cZ : ClassId} {D : va_G} {tys : List (ClassId × FieldType)} {tL tR tS tI tII tZ : Nat} {H0 : Heap} (hG : kl_G o mo b L A B xs cL cR cS cI cII cZ D tys tL tR tS tI tII tZ H0 s)
    {H : Heap} {v w : Nat → Nat} {bs cs : Nat → Bool} {far : Bool} {i : Nat} {ls : Array Slot} (hI : kl_I o mo A B cL cR cS cI cII cZ D H0 H v w bs cs far) (hi : i + 5 ≤ L) (hl : lv_has ls 4 [(3, .int (nI i)), (2, .ref mo), (1, .ref o), (0, .ref b)])
    (kk : ∀ (H : Heap) (v w : Nat → Nat) (bs cs : Nat → Bool) (far : Bool), kl_I o mo A B cL cR cS cI cII cZ D H0 H v w bs cs far → W p l e room_1 s m args below meth c H [] 77 611 Q (F0 m 795 ls [])) : W p l e room_1 s m args below meth c H [] 77 611 Q (F0 m 477 ls []) := by
  obtain ⟨hz, he, hc, hm, hR⟩ := hI
  obtain ⟨hso, hmo, hL, hbo, hK, hN, hZC, gC, hZM, gM, hL0, hR0, hS0, hI0, hII0, hZ0, hX⟩ := hG
  have hom : o ≤ mo := by omega
  have hS := kl_kr (hX.kept (he b hbo))
  refine lv_aload_n hx hb d_law_477 rfl (lv_at hl 2 rfl) ?_
  refine lv_aload_n hx hb d_law_478 rfl (lv_at hl 3 rfl) ?_
  refine lv_iload_n hx hb d_law_479 rfl (lv_at hl 0 rfl) ?_
  refine lv_iconst (v := nI 1) hx hb d_law_480 (by decide) ?_
  refine lv_iadd hx hb d_law_481 ?_
  refine kq_ri (show (nI i) + (nI 1) = nI (i + 1) from nI_add i 1) ?_
  refine kq_iald hx hb hS (show i + 1 < L by omega) (by omega) rfl d_law_482 ?_
  refine kq_call (va_runV (As := [.int (xs (i + 1))]) (rest := []) ⟨hx, hb, hml, hown, hts⟩ (c_Ke_base l (kl_C o A cL D tys H0 H) A o bs v H (kl_okC gC hL0) (kl_AC gC) (kl_OC gC hc) (kl_WC hc) (xs (i + 1))) (cwV 1 hts (kt_inV kt_w272 kt_w269 kt_w270 kt_w271 kt_w1) rfl rfl rfl (by decide +kernel) ⟨Nat.le_of_ble_eq_true rfl, Nat.le_of_ble_eq_true rfl⟩) (kq_p2V ((kr_K_s2 (kl_C o A cL D tys H0 H) A o)) (kl_KC hK hN hZC gC hL0 hR0 hS0 he hc) (kq_recv hK hc.1 rfl)) rfl rfl hl.1 rfl (lv_room (Nat.le_of_ble_eq_true rfl)) d_law_483 ⟨Nat.le_of_ble_eq_true rfl, Nat.le_of_ble_eq_true rfl⟩) (fun v9 H1 L1 hq1 hL1 => ?_)
  obtain ⟨rfl, hW1⟩ := hq1
  refine W.eq (g2 := F0 m 486 ls []) rfl ?_
  refine va_forget (fun q hq => by
    have z := hL1 q hq
    have hh := kx_h_ge o (true)
    rcases z with z | z | z
    · rw [z]
      omega
    · rw [z]
      omega
    · rw [z]
      omega) ?_
  have hc1 := hc.backb (kx3_lt _) hW1
  have off1 := kl_offb (kx3_lt _) hW1
  have hm1 := hm.same (fun q q1 q2 => off1.2 q (Or.inr (by omega)))
  have he1 : ∀ q, q < o → H1[q]? = H0[q]? := fun q hq => (off1.2 q (Or.inl hq)).trans (he q hq)
  have hS1 := hS.other (H1 := H1) (off1.2 b (Or.inl hbo))
  have hS := hS1
  refine lv_aload_n hx hb d_law_486 rfl (lv_at hl 1 rfl) ?_
  refine lv_aload_n hx hb d_law_487 rfl (lv_at hl 3 rfl) ?_
  refine lv_iload_n hx hb d_law_488 rfl (lv_at hl 0 rfl) ?_
  refine lv_iconst (v := nI 1) hx hb d_law_489 (by decide) ?_
  refine lv_iadd hx hb d_law_490 ?_
  refine kq_ri (show (nI i) + (nI 1) = nI (i + 1) from nI_add i 1) ?_
  refine kq_iald hx hb hS (show i + 1 < L by omega) (by omega) rfl d_law_491 ?_
  refine kq_call (va_runV (As := [.int (xs (i + 1))]) (rest := []) ⟨hx, hb, hml, hown, hts⟩ (c_Mo_base l (kl_M mo B cI D tys H0 H1) B mo cZ far cs w H1 (kl_okM gM hom hI0) (kl_AM gM hom) kl_GM (kl_FM (tys := tys) gM hom hm1) (kl_WM hm1) (xs (i + 1))) (cwV 1 hts (kt_inV kt_w535 kt_w532 kt_w533 kt_w534 kt_w5) rfl rfl rfl (by decide +kernel) ⟨Nat.le_of_ble_eq_true rfl, Nat.le_of_ble_eq_true rfl⟩) (kq_preV ((ks_KZ_st (kl_M mo B cI D tys H0 H1) B mo cZ)) ((kl_KM hK hZM gM hom hI0 hII0 hZ0 he1 hm1)) (kq_recv hK hm1.1 rfl)) rfl rfl hl.1 rfl (lv_room (Nat.le_of_ble_eq_true rfl)) d_law_492 ⟨Nat.le_of_ble_eq_true rfl, Nat.le_of_ble_eq_true rfl⟩) (fun v9 H2 L2 hq2 hL2 => ?_)
  obtain ⟨rfl, hX2⟩ := hq2
  refine W.eq (g2 := F0 m 495 ls []) rfl ?_
  refine va_forget (fun q hq => by
    have z := hL2 q hq
    have hh := kx_h_ge o (true)
    rcases z with z | z | z
    · rw [z]
      omega
    · rw [z]
      omega
    · rw [z]
      omega) ?_
  obtain ⟨hm2, z2, off2⟩ := hm1.back gM hom hX2
  have hc2 := hc1.same (fun q q1 q2 => off2 q (Or.inl (by omega)))
  have hz2 : H2.size = o + 77 := z2.trans (off1.1.trans hz)
  have he2 : ∀ q, q < o → H2[q]? = H0[q]? := fun q hq => (off2 q (Or.inl (by omega))).trans (he1 q hq)
  have hI2 : kl_I o mo A B cL cR cS cI cII cZ D H0 H2 _ _ _ _ _ := ⟨hz2, he2, hc2, hm2, hR.pt (kx3_lt (xs (i + 1))) (by rw [kx_ub_at, kx_ub_at]) (fun j hj => ⟨kx_ub_ne _ _ hj, kx_ub_ne _ _ hj⟩) (fun _ => ⟨by rw [kq_up_ne (by omega), kq_up_at, kq_up_ne (by omega), kq_up_at], by rw [kq_up_at, kq_up_at], by rw [kq_up_ne (by omega), kq_up_at]; exact kG_lt.1, by rw [kq_up_at]; exact kG_lt.2⟩) (fun q q1 q2 _ _ => by rw [kq_up_ne q2, kq_up_ne q1]) (fun q q1 q2 _ _ => by rw [kq_up_ne q2, kq_up_ne q1])⟩
  refine lv_goto hx hb d_law_495 rfl ?_
  exact kk _ _ _ _ _ _ hI2
end
theorem d_law_498 : decode code 498 = .ok (.aload_n 1, 1) := by decide +kernel
theorem d_law_499 : decode code 499 = .ok (.aload_n 0, 1) := by decide +kernel
theorem d_law_500 : decode code 500 = .ok (.iload_n 3, 1) := by decide +kernel
theorem d_law_501 : decode code 501 = .ok (.iconst 1, 1) := by decide +kernel
theorem d_law_502 : decode code 502 = .ok (.iadd, 1) := by decide +kernel
theorem d_law_503 : decode code 503 = .ok (.iaload, 1) := by decide +kernel
theorem d_law_504 : decode code 504 = .ok (.invokevirtual 51, 3) := by decide +kernel
theorem d_law_507 : decode code 507 = .ok (.aload_n 2, 1) := by decide +kernel
theorem d_law_508 : decode code 508 = .ok (.aload_n 0, 1) := by decide +kernel
theorem d_law_509 : decode code 509 = .ok (.iload_n 3, 1) := by decide +kernel
theorem d_law_510 : decode code 510 = .ok (.iconst 1, 1) := by decide +kernel
theorem d_law_511 : decode code 511 = .ok (.iadd, 1) := by decide +kernel
theorem d_law_512 : decode code 512 = .ok (.iaload, 1) := by decide +kernel
theorem d_law_513 : decode code 513 = .ok (.invokevirtual 54, 3) := by decide +kernel
theorem d_law_516 : decode code 516 = .ok (.goto 279, 3) := by decide +kernel
section
variable {p : Program} {l : Launch} {e : Env} {s : State} {m : MethodId} {args : Array Value} {below : List Frame} {meth : Method} {c : Code} {Q : State → Prop}
set_option maxHeartbeats 4000000 in
set_option maxRecDepth 100000 in
theorem lc_none (hx : p.tables.exec = Jvm.exec) (hb : c.code = code) (hml : c.maxLocals = 4) (hown : s.vm.findClass "KeyCurveLaw" = some m.cls) (hts : ∀ w ∈ kl_y :: kt_all, w.before args s = true)
    {o mo b L : Nat} {A B : Nat → Nat} {xs : Nat → Int32} {cL cR cS cI cII cZ : ClassId} {D : va_G} {tys : List (ClassId × FieldType)} {tL tR tS tI tII tZ : Nat} {H0 : Heap} (hG : kl_G o mo b L A B xs cL cR cS cI cII cZ D tys tL tR tS tI tII tZ H0 s)
    {H : Heap} {v w : Nat → Nat} {bs cs : Nat → Bool} {far : Bool} {i : Nat} {ls : Array Slot} (hI : kl_I o mo A B cL cR cS cI cII cZ D H0 H v w bs cs far) (hi : i + 5 ≤ L) (hl : lv_has ls 4 [(3, .int (nI i)), (2, .ref mo), (1, .ref o), (0, .ref b)])
    (kk : ∀ (H : Heap) (v w : Nat → Nat) (bs cs : Nat → Bool) (far : Bool), kl_I o mo A B cL cR cS cI cII cZ D H0 H v w bs cs far → W p l e room_1 s m args below meth c H [] 77 611 Q (F0 m 795 ls [])) : W p l e room_1 s m args below meth c H [] 77 611 Q (F0 m 498 ls []) := by
  obtain ⟨hz, he, hc, hm, hR⟩ := hI
  obtain ⟨hso, hmo, hL, hbo, hK, hN, hZC, gC, hZM, gM, hL0, hR0, hS0, hI0, hII0, hZ0, hX⟩ := hG
  have hom : o ≤ mo := by omega
  have hS := kl_kr (hX.kept (he b hbo))
  refine lv_aload_n hx hb d_law_498 rfl (lv_at hl 2 rfl) ?_
  refine lv_aload_n hx hb d_law_499 rfl (lv_at hl 3 rfl) ?_
  refine lv_iload_n hx hb d_law_500 rfl (lv_at hl 0 rfl) ?_
  refine lv_iconst (v := nI 1) hx hb d_law_501 (by decide) ?_
  refine lv_iadd hx hb d_law_502 ?_
  refine kq_ri (show (nI i) + (nI 1) = nI (i + 1) from nI_add i 1) ?_
  refine kq_iald hx hb hS (show i + 1 < L by omega) (by omega) rfl d_law_503 ?_
  refine kq_call (va_runV (As := [.int (xs (i + 1))]) (rest := []) ⟨hx, hb, hml, hown, hts⟩ (c_Ke_none l (kl_C o A cL D tys H0 H) A o bs v H (kl_okC gC hL0) (kl_AC gC) (kl_OC gC hc) (kl_WC hc) (xs (i + 1))) (cwV 1 hts (kt_inV kt_w289 kt_w286 kt_w287 kt_w288 kt_w1) rfl rfl rfl (by decide +kernel) ⟨Nat.le_of_ble_eq_true rfl, Nat.le_of_ble_eq_true rfl⟩) (kq_p2V ((kr_K_s2 (kl_C o A cL D tys H0 H) A o)) (kl_KC hK hN hZC gC hL0 hR0 hS0 he hc) (kq_recv hK hc.1 rfl)) rfl rfl hl.1 rfl (lv_room (Nat.le_of_ble_eq_true rfl)) d_law_504 ⟨Nat.le_of_ble_eq_true rfl, Nat.le_of_ble_eq_true rfl⟩) (fun v9 H1 L1 hq1 hL1 => ?_)
  obtain ⟨rfl, hW1⟩ := hq1
  refine W.eq (g2 := F0 m 507 ls []) rfl ?_
  refine va_forget (fun q hq => by
    have z := hL1 q hq
    have hh := kx_h_ge o (true)
    rw [z]
    omega) ?_
  have hc1 := hc.backb (kx3_lt _) hW1
  have off1 := kl_offb (kx3_lt _) hW1
  have hm1 := hm.same (fun q q1 q2 => off1.2 q (Or.inr (by omega)))
  have he1 : ∀ q, q < o → H1[q]? = H0[q]? := fun q hq => (off1.2 q (Or.inl hq)).trans (he q hq)
  have hS1 := hS.other (H1 := H1) (off1.2 b (Or.inl hbo))
  have hS := hS1
  refine lv_aload_n hx hb d_law_507 rfl (lv_at hl 1 rfl) ?_
  refine lv_aload_n hx hb d_law_508 rfl (lv_at hl 3 rfl) ?_
  refine lv_iload_n hx hb d_law_509 rfl (lv_at hl 0 rfl) ?_
  refine lv_iconst (v := nI 1) hx hb d_law_510 (by decide) ?_
  refine lv_iadd hx hb d_law_511 ?_
  refine kq_ri (show (nI i) + (nI 1) = nI (i + 1) from nI_add i 1) ?_
  refine kq_iald hx hb hS (show i + 1 < L by omega) (by omega) rfl d_law_512 ?_
  refine kq_call (va_runV (As := [.int (xs (i + 1))]) (rest := []) ⟨hx, hb, hml, hown, hts⟩ (c_Mo_none l (kl_M mo B cI D tys H0 H1) B mo cZ far cs w H1 (kl_okM gM hom hI0) (kl_AM gM hom) kl_GM (kl_FM (tys := tys) gM hom hm1) (kl_WM hm1) (xs (i + 1))) (cwV 1 hts (kt_inV kt_w547 kt_w544 kt_w545 kt_w546 kt_w5) rfl rfl rfl (by decide +kernel) ⟨Nat.le_of_ble_eq_true rfl, Nat.le_of_ble_eq_true rfl⟩) (kq_preV ((ks_KZ_st (kl_M mo B cI D tys H0 H1) B mo cZ)) ((kl_KM hK hZM gM hom hI0 hII0 hZ0 he1 hm1)) (kq_recv hK hm1.1 rfl)) rfl rfl hl.1 rfl (lv_room (Nat.le_of_ble_eq_true rfl)) d_law_513 ⟨Nat.le_of_ble_eq_true rfl, Nat.le_of_ble_eq_true rfl⟩) (fun v9 H2 L2 hq2 hL2 => ?_)
  obtain ⟨rfl, hX2⟩ := hq2
  refine W.eq (g2 := F0 m 516 ls []) rfl ?_
  refine va_forget (fun q hq => by
    have z := hL2 q hq
    have hh := kx_h_ge o (true)
    rw [z]
    omega) ?_
  obtain ⟨hm2, z2, off2⟩ := hm1.back gM hom hX2
  have hc2 := hc1.same (fun q q1 q2 => off2 q (Or.inl (by omega)))
  have hz2 : H2.size = o + 77 := z2.trans (off1.1.trans hz)
  have he2 : ∀ q, q < o → H2[q]? = H0[q]? := fun q hq => (off2 q (Or.inl (by omega))).trans (he1 q hq)
  have hI2 : kl_I o mo A B cL cR cS cI cII cZ D H0 H2 _ _ _ _ _ := ⟨hz2, he2, hc2, hm2, hR.pt (kx3_lt (xs (i + 1))) (by rw [kx_ub_at, kx_ub_at]) (fun j hj => ⟨kx_ub_ne _ _ hj, kx_ub_ne _ _ hj⟩) (fun z => by rw [kx_ub_at] at z; cases z) (fun _ _ _ _ _ => rfl) (fun _ _ _ _ _ => rfl)⟩
  refine lv_goto hx hb d_law_516 rfl ?_
  exact kk _ _ _ _ _ _ hI2
end
theorem d_law_519 : decode code 519 = .ok (.aload_n 1, 1) := by decide +kernel
theorem d_law_520 : decode code 520 = .ok (.aload_n 0, 1) := by decide +kernel
theorem d_law_521 : decode code 521 = .ok (.iload_n 3, 1) := by decide +kernel
theorem d_law_522 : decode code 522 = .ok (.iconst 1, 1) := by decide +kernel
theorem d_law_523 : decode code 523 = .ok (.iadd, 1) := by decide +kernel
theorem d_law_524 : decode code 524 = .ok (.iaload, 1) := by decide +kernel
theorem d_law_525 : decode code 525 = .ok (.aload_n 0, 1) := by decide +kernel
theorem d_law_526 : decode code 526 = .ok (.iload_n 3, 1) := by decide +kernel
theorem d_law_527 : decode code 527 = .ok (.iconst 2, 1) := by decide +kernel
theorem d_law_528 : decode code 528 = .ok (.iadd, 1) := by decide +kernel
theorem d_law_529 : decode code 529 = .ok (.iaload, 1) := by decide +kernel
theorem d_law_530 : decode code 530 = .ok (.aload_n 0, 1) := by decide +kernel
theorem d_law_531 : decode code 531 = .ok (.iload_n 3, 1) := by decide +kernel
theorem d_law_532 : decode code 532 = .ok (.iconst 3, 1) := by decide +kernel
theorem d_law_533 : decode code 533 = .ok (.iadd, 1) := by decide +kernel
theorem d_law_534 : decode code 534 = .ok (.iaload, 1) := by decide +kernel
theorem d_law_535 : decode code 535 = .ok (.invokevirtual 55, 3) := by decide +kernel
theorem d_law_538 : decode code 538 = .ok (.aload_n 2, 1) := by decide +kernel
theorem d_law_539 : decode code 539 = .ok (.aload_n 0, 1) := by decide +kernel
theorem d_law_540 : decode code 540 = .ok (.iload_n 3, 1) := by decide +kernel
theorem d_law_541 : decode code 541 = .ok (.iconst 1, 1) := by decide +kernel
theorem d_law_542 : decode code 542 = .ok (.iadd, 1) := by decide +kernel
theorem d_law_543 : decode code 543 = .ok (.iaload, 1) := by decide +kernel
theorem d_law_544 : decode code 544 = .ok (.aload_n 0, 1) := by decide +kernel
theorem d_law_545 : decode code 545 = .ok (.iload_n 3, 1) := by decide +kernel
theorem d_law_546 : decode code 546 = .ok (.iconst 2, 1) := by decide +kernel
theorem d_law_547 : decode code 547 = .ok (.iadd, 1) := by decide +kernel
theorem d_law_548 : decode code 548 = .ok (.iaload, 1) := by decide +kernel
theorem d_law_549 : decode code 549 = .ok (.aload_n 0, 1) := by decide +kernel
theorem d_law_550 : decode code 550 = .ok (.iload_n 3, 1) := by decide +kernel
theorem d_law_551 : decode code 551 = .ok (.iconst 3, 1) := by decide +kernel
theorem d_law_552 : decode code 552 = .ok (.iadd, 1) := by decide +kernel
theorem d_law_553 : decode code 553 = .ok (.iaload, 1) := by decide +kernel
theorem d_law_554 : decode code 554 = .ok (.invokevirtual 59, 3) := by decide +kernel
theorem d_law_557 : decode code 557 = .ok (.if_icmp .eq 238, 3) := by decide +kernel
theorem d_law_560 : decode code 560 = .ok (.iconst 0, 1) := by decide +kernel
theorem d_law_561 : decode code 561 = .ok (.ireturn, 1) := by decide +kernel
section
variable {p : Program} {l : Launch} {e : Env} {s : State} {m : MethodId} {args : Array Value} {below : List Frame} {meth : Method} {c : Code} {Q : State → Prop}
set_option maxHeartbeats 4000000 in
set_option maxRecDepth 100000 in
theorem lc_point (hx : p.tables.exec = Jvm.exec) (hb : c.code = code) (hml : c.maxLocals = 4) (hown : s.vm.findClass "KeyCurveLaw" = some m.cls) (hts : ∀ w ∈ kl_y :: kt_all, w.before args s = true)
    {o mo b L : Nat} {A B : Nat → Nat} {xs : Nat → Int32} {cL cR cS cI cII cZ : ClassId} {D : va_G} {tys : List (ClassId × FieldType)} {tL tR tS tI tII tZ : Nat} {H0 : Heap} (hG : kl_G o mo b L A B xs cL cR cS cI cII cZ D tys tL tR tS tI tII tZ H0 s)
    {H : Heap} {v w : Nat → Nat} {bs cs : Nat → Bool} {far : Bool} {i : Nat} {ls : Array Slot} (hI : kl_I o mo A B cL cR cS cI cII cZ D H0 H v w bs cs far) (hi : i + 5 ≤ L) (hl : lv_has ls 4 [(3, .int (nI i)), (2, .ref mo), (1, .ref o), (0, .ref b)])
    (kk : ∀ (H : Heap) (v w : Nat → Nat) (bs cs : Nat → Bool) (far : Bool), kl_I o mo A B cL cR cS cI cII cZ D H0 H v w bs cs far → W p l e room_1 s m args below meth c H [] 77 611 Q (F0 m 795 ls [])) : W p l e room_1 s m args below meth c H [] 77 611 Q (F0 m 519 ls []) := by
  obtain ⟨hz, he, hc, hm, hR⟩ := hI
  obtain ⟨hso, hmo, hL, hbo, hK, hN, hZC, gC, hZM, gM, hL0, hR0, hS0, hI0, hII0, hZ0, hX⟩ := hG
  have hom : o ≤ mo := by omega
  have hS := kl_kr (hX.kept (he b hbo))
  refine lv_aload_n hx hb d_law_519 rfl (lv_at hl 2 rfl) ?_
  refine lv_aload_n hx hb d_law_520 rfl (lv_at hl 3 rfl) ?_
  refine lv_iload_n hx hb d_law_521 rfl (lv_at hl 0 rfl) ?_
  refine lv_iconst (v := nI 1) hx hb d_law_522 (by decide) ?_
  refine lv_iadd hx hb d_law_523 ?_
  refine kq_ri (show (nI i) + (nI 1) = nI (i + 1) from nI_add i 1) ?_
  refine kq_iald hx hb hS (show i + 1 < L by omega) (by omega) rfl d_law_524 ?_
  refine lv_aload_n hx hb d_law_525 rfl (lv_at hl 3 rfl) ?_
  refine lv_iload_n hx hb d_law_526 rfl (lv_at hl 0 rfl) ?_
  refine lv_iconst (v := nI 2) hx hb d_law_527 (by decide) ?_
  refine lv_iadd hx hb d_law_528 ?_
  refine kq_ri (show (nI i) + (nI 2) = nI (i + 2) from nI_add i 2) ?_
  refine kq_iald hx hb hS (show i + 2 < L by omega) (by omega) rfl d_law_529 ?_
  refine lv_aload_n hx hb d_law_530 rfl (lv_at hl 3 rfl) ?_
  refine lv_iload_n hx hb d_law_531 rfl (lv_at hl 0 rfl) ?_
  refine lv_iconst (v := nI 3) hx hb d_law_532 (by decide) ?_
  refine lv_iadd hx hb d_law_533 ?_
  refine kq_ri (show (nI i) + (nI 3) = nI (i + 3) from nI_add i 3) ?_
  refine kq_iald hx hb hS (show i + 3 < L by omega) (by omega) rfl d_law_534 ?_
  refine kq_call (va_runV (As := [.int (xs (i + 1)), .int (xs (i + 2)), .int (xs (i + 3))]) (rest := []) ⟨hx, hb, hml, hown, hts⟩ (c_Ke_point l (kl_C o A cL D tys H0 H) A o bs v H (kl_okC gC hL0) (kl_AC gC) (kl_OC gC hc) (kl_WC hc) (xs (i + 1)) (xs (i + 2)) (xs (i + 3))) (cwV 3 hts (kt_inV kt_w293 kt_w290 kt_w291 kt_w292 kt_w1) rfl rfl rfl (by decide +kernel) ⟨Nat.le_of_ble_eq_true rfl, Nat.le_of_ble_eq_true rfl⟩) (kq_p2V ((kr_K_s2 (kl_C o A cL D tys H0 H) A o)) (kl_KC hK hN hZC gC hL0 hR0 hS0 he hc) (kq_recv hK hc.1 rfl)) rfl rfl hl.1 rfl (lv_room (Nat.le_of_ble_eq_true rfl)) d_law_535 ⟨Nat.le_of_ble_eq_true rfl, Nat.le_of_ble_eq_true rfl⟩) (fun v9 H1 L1 hq1 hL1 => ?_)
  obtain ⟨rfl, v1, hW1, e1, f1, k1⟩ := hq1
  refine W.eq (g2 := F0 m 538 ls [.int (kq_z (decide (v (o + 2 + kx3 (xs (i + 2))) < kP ∧ v (o + 2 + kx3 (xs (i + 3))) < kP ∧ v (o + 2 + kx3 (xs (i + 3))) * v (o + 2 + kx3 (xs (i + 3))) % kP = kc_sq (v (o + 2 + kx3 (xs (i + 2)))))))]) rfl ?_
  refine va_forget (fun q hq => by
    have z := hL1 q hq
    have hh := kx_h_ge o (true)
    rcases z with z | z | z | z
    · rw [z]
      omega
    · rw [z]
      omega
    · rw [z]
      omega
    · unfold kr_fr at z
      omega) ?_
  have hc1 := hc.backb (kx3_lt _) hW1
  have off1 := kl_offb (kx3_lt _) hW1
  have hm1 := hm.same (fun q q1 q2 => off1.2 q (Or.inr (by omega)))
  have he1 : ∀ q, q < o → H1[q]? = H0[q]? := fun q hq => (off1.2 q (Or.inl hq)).trans (he q hq)
  have hS1 := hS.other (H1 := H1) (off1.2 b (Or.inl hbo))
  have hS := hS1
  refine lv_aload_n hx hb d_law_538 rfl (lv_at hl 1 rfl) ?_
  refine lv_aload_n hx hb d_law_539 rfl (lv_at hl 3 rfl) ?_
  refine lv_iload_n hx hb d_law_540 rfl (lv_at hl 0 rfl) ?_
  refine lv_iconst (v := nI 1) hx hb d_law_541 (by decide) ?_
  refine lv_iadd hx hb d_law_542 ?_
  refine kq_ri (show (nI i) + (nI 1) = nI (i + 1) from nI_add i 1) ?_
  refine kq_iald hx hb hS (show i + 1 < L by omega) (by omega) rfl d_law_543 ?_
  refine lv_aload_n hx hb d_law_544 rfl (lv_at hl 3 rfl) ?_
  refine lv_iload_n hx hb d_law_545 rfl (lv_at hl 0 rfl) ?_
  refine lv_iconst (v := nI 2) hx hb d_law_546 (by decide) ?_
  refine lv_iadd hx hb d_law_547 ?_
  refine kq_ri (show (nI i) + (nI 2) = nI (i + 2) from nI_add i 2) ?_
  refine kq_iald hx hb hS (show i + 2 < L by omega) (by omega) rfl d_law_548 ?_
  refine lv_aload_n hx hb d_law_549 rfl (lv_at hl 3 rfl) ?_
  refine lv_iload_n hx hb d_law_550 rfl (lv_at hl 0 rfl) ?_
  refine lv_iconst (v := nI 3) hx hb d_law_551 (by decide) ?_
  refine lv_iadd hx hb d_law_552 ?_
  refine kq_ri (show (nI i) + (nI 3) = nI (i + 3) from nI_add i 3) ?_
  refine kq_iald hx hb hS (show i + 3 < L by omega) (by omega) rfl d_law_553 ?_
  refine kq_call (va_runV (As := [.int (xs (i + 1)), .int (xs (i + 2)), .int (xs (i + 3))]) (rest := [.int (kq_z (decide (v (o + 2 + kx3 (xs (i + 2))) < kP ∧ v (o + 2 + kx3 (xs (i + 3))) < kP ∧ v (o + 2 + kx3 (xs (i + 3))) * v (o + 2 + kx3 (xs (i + 3))) % kP = kc_sq (v (o + 2 + kx3 (xs (i + 2)))))))]) ⟨hx, hb, hml, hown, hts⟩ (c_Mo_point l (kl_M mo B cI D tys H0 H1) B mo cZ far cs w H1 (kl_okM gM hom hI0) (kl_AM gM hom) kl_GM (kl_FM (tys := tys) gM hom hm1) (kl_WM hm1) (xs (i + 1)) (xs (i + 2)) (xs (i + 3))) (cwV 3 hts (kt_inV kt_w551 kt_w548 kt_w549 kt_w550 kt_w5) rfl rfl rfl (by decide +kernel) ⟨Nat.le_of_ble_eq_true rfl, Nat.le_of_ble_eq_true rfl⟩) (kq_preV ((ks_KZ_st (kl_M mo B cI D tys H0 H1) B mo cZ)) ((kl_KM hK hZM gM hom hI0 hII0 hZ0 he1 hm1)) (kq_recv hK hm1.1 rfl)) rfl rfl hl.1 rfl (lv_room (Nat.le_of_ble_eq_true rfl)) d_law_554 ⟨Nat.le_of_ble_eq_true rfl, Nat.le_of_ble_eq_true rfl⟩) (fun v9 H2 L2 hq2 hL2 => ?_)
  obtain ⟨rfl, w2, hX2, e2, f2, k2⟩ := hq2
  refine W.eq (g2 := F0 m 557 ls [.int (kq_z (decide (w (mo + 2 + kx3 (xs (i + 2))) < kP ∧ w (mo + 2 + kx3 (xs (i + 3))) < kP ∧ w (mo + 2 + kx3 (xs (i + 3))) * w (mo + 2 + kx3 (xs (i + 3))) % kP = kc_sq (w (mo + 2 + kx3 (xs (i + 2))))))), .int (kq_z (decide (v (o + 2 + kx3 (xs (i + 2))) < kP ∧ v (o + 2 + kx3 (xs (i + 3))) < kP ∧ v (o + 2 + kx3 (xs (i + 3))) * v (o + 2 + kx3 (xs (i + 3))) % kP = kc_sq (v (o + 2 + kx3 (xs (i + 2)))))))]) rfl ?_
  refine va_forget (fun q hq => by
    have z := hL2 q hq
    have hh := kx_h_ge o (true)
    rcases z with z | z | z | z
    · rw [z]
      omega
    · rw [z]
      omega
    · rw [z]
      omega
    · unfold ks_fr at z
      omega) ?_
  obtain ⟨hm2, z2, off2⟩ := hm1.back gM hom hX2
  have hc2 := hc1.same (fun q q1 q2 => off2 q (Or.inl (by omega)))
  have hz2 : H2.size = o + 77 := z2.trans (off1.1.trans hz)
  have he2 : ∀ q, q < o → H2[q]? = H0[q]? := fun q hq => (off2 q (Or.inl (by omega))).trans (he1 q hq)
  have rA := (hR _ (kx3_lt (xs (i + 2)))).1
  have rB := (hR _ (kx3_lt (xs (i + 3)))).1
  rw [rA, rB] at hc2 e1 f1 ⊢
  by_cases hC : (w (mo + 2 + kx3 (xs (i + 2))) < kP ∧ w (mo + 2 + kx3 (xs (i + 3))) < kP ∧ w (mo + 2 + kx3 (xs (i + 3))) * w (mo + 2 + kx3 (xs (i + 3))) % kP = kc_sq (w (mo + 2 + kx3 (xs (i + 2)))))
  · rw [if_pos hC] at e1 f1 e2 f2 hm2 hc2
    have hR2 := hR.pt (v1 := v1) (w1 := w2) (bs1 := kx_ub bs (kx3 (xs (i + 1))) false) (cs1 := kx_ub cs (kx3 (xs (i + 1))) false) (kx3_lt (xs (i + 1))) (by rw [kx_ub_at, kx_ub_at]) (fun j hj => ⟨kx_ub_ne _ _ hj, kx_ub_ne _ _ hj⟩) (fun _ => ⟨by rw [e1, e2], by rw [f1, f2], by rw [e1]; exact hC.1, by rw [f1]; exact hC.2.1⟩) (fun q q1 q2 q3 q4 => k1 q q1 q2 (by unfold kr_fr; omega)) (fun q q1 q2 q3 q4 => k2 q q1 q2 (by unfold ks_fr; omega))
    refine lv_icmp_eq hx hb d_law_557 rfl (fun hq => ?_) (fun hq => ?_)
    · exact kk _ _ _ _ _ _ ⟨hz2, he2, hc2, hm2, hR2⟩
    · exact absurd rfl hq
  · rw [if_neg hC] at e1 f1 e2 f2 hm2 hc2
    have hR2 := hR.pt (v1 := v1) (w1 := w2) (bs1 := kx_ub bs (kx3 (xs (i + 1))) (bs (kx3 (xs (i + 1))))) (cs1 := cs) (kx3_lt (xs (i + 1))) (by rw [kx_ub_at]; exact (hR _ (kx3_lt (xs (i + 1)))).2.1) (fun j hj => ⟨kx_ub_ne _ _ hj, rfl⟩) (fun z => by rw [kx_ub_at] at z; rw [e1, e2, f1, f2]; exact (hR _ (kx3_lt (xs (i + 1)))).2.2 z) (fun q q1 q2 q3 q4 => k1 q q1 q2 (by unfold kr_fr; omega)) (fun q q1 q2 q3 q4 => k2 q q1 q2 (by unfold ks_fr; omega))
    refine lv_icmp_eq hx hb d_law_557 rfl (fun hq => ?_) (fun hq => ?_)
    · exact kk _ _ _ _ _ _ ⟨hz2, he2, hc2, hm2, hR2⟩
    · exact absurd rfl hq
end
