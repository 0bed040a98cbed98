/-! the law does -/
section
variable {nm : String} {b0 L : Nat} {xs : Nat → Int32} {sh : mbSh} {ct : mbCt} {i : Int}
theorem L_say (hL : L ≤ 3072) (hi0 : 0 ≤ i) (hiL : i + 6 ≤ (L : Int)) (I : INV sh ct (4 * i)) (kk : ∀ sh2 ct2, INV sh2 ct2 (4 * (i + 6)) → G (KL nm b0 L xs) 1490 [some (.inr (.inr (-11))), some (.inr (.inr 0)), some (.inr (.inr 92)), some (.inl i)] [] sh2 ct2) : G (KL nm b0 L xs) 425 [some (.inr (.inr (-11))), some (.inr (.inr 0)), some (.inr (.inr 92)), some (.inl i)] [] sh ct := by
  obtain ⟨b, o, β, s, n, pl, q, N, hi, bi, si, sz, bt, vl, tn, C, M, J, R⟩ := I
  have S := R.1
  refine g_aload_n (q := 426) dL_law_425 rfl rfl ?_
  refine g_aload_n (q := 427) dL_law_426 rfl rfl ?_
  refine g_iload_n (q := 428) dL_law_427 rfl rfl ?_
  refine g_iconst (q := 429) dL_law_428 rfl ?_
  refine g_iadd (q := 430) dL_law_429 rfl ?_
  refine g_sld (q := 431) hi0 hiL (by omega) (by omega) dL_law_430 rfl ?_
  refine g_aload_n (q := 432) dL_law_431 rfl rfl ?_
  refine g_iload_n (q := 433) dL_law_432 rfl rfl ?_
  refine g_iconst (q := 434) dL_law_433 rfl ?_
  refine g_iadd (q := 435) dL_law_434 rfl ?_
  refine g_sld (q := 436) hi0 hiL (by omega) (by omega) dL_law_435 rfl ?_
  refine g_callV (q := 439) lL_45 mX11_say nX11_say rfl (x_say 0 sh _ S C.1 (sv_i xs (i + 1)) (sv_i xs (i + 2))) (S.at _ rfl) rfl rfl shLe.rf (rmL R (by decide)) (Nat.le_of_ble_eq_true rfl) dL_law_436 rfl rfl (kI fun r c1 hp => ?_)
  obtain ⟨hp, f1⟩ := hp
  have go : ∀ s2 n2 pl2, CP sh c1 b β s2 n2 pl2 q N (4 * i) → (∀ r2 c2, ((whyS β s (sv xs (i + 1)) (sv xs (i + 2)) ≠ 0 ∧ r2 = -10 - whyS β s (sv xs (i + 1)) (sv xs (i + 2)) ∧ MP c2 β s n pl) ∨ (whyS β s (sv xs (i + 1)) (sv xs (i + 2)) = 0 ∧ r2 = nxB β s.1 (sv xs (i + 1)) (sv xs (i + 2)) / 7 ∧ MP c2 β (sayS β s (sv xs (i + 1)) (sv xs (i + 2))) (pushN n) (pushP n pl s))) ∧ dF c1 c2 → r = r2 ∧ MP c2 β s2 n2 pl2 ∧ dF c1 c2) → G (KL nm b0 L xs) 439 [some (.inr (.inr (-11))), some (.inr (.inr 0)), some (.inr (.inr 92)), some (.inl i)] [.inl r] sh c1 := by
    intro s2 n2 pl2 C1 hh
    obtain ⟨D1, e1, e2⟩ := C.d C1 f1
    have M1 := M.cl D1.L e1
    have J1 := J.cl e1 e2
    refine g_aload_n (q := 440) dL_law_439 rfl rfl ?_
    refine g_aload_n (q := 441) dL_law_440 rfl rfl ?_
    refine g_iload_n (q := 442) dL_law_441 rfl rfl ?_
    refine g_iconst (q := 443) dL_law_442 rfl ?_
    refine g_iadd (q := 444) dL_law_443 rfl ?_
    refine g_sld (q := 445) hi0 hiL (by omega) (by omega) dL_law_444 rfl ?_
    refine g_aload_n (q := 446) dL_law_445 rfl rfl ?_
    refine g_iload_n (q := 447) dL_law_446 rfl rfl ?_
    refine g_iconst (q := 448) dL_law_447 rfl ?_
    refine g_iadd (q := 449) dL_law_448 rfl ?_
    refine g_sld (q := 450) hi0 hiL (by omega) (by omega) dL_law_449 rfl ?_
    refine g_callV (q := 453) lL_48 mX12_say nX12_say rfl (tw_say 0 sh _ S M1.1 (sv_i xs (i + 1)) (sv_i xs (i + 2))) (S.at _ rfl) rfl rfl shLe.rf (rmL R (by decide)) (Nat.le_of_ble_eq_true rfl) dL_law_450 rfl rfl (kI fun r2 c2 hp => ?_)
    obtain ⟨e, M2, f2⟩ := hh r2 c2 hp
    refine g_icmp_eq (q := 456) (tg := 1490) dL_law_453 (by decide) rfl (fun c_453 => ?_) (fun c_453 => ?_)
    · exact kk sh c2 ⟨b, o, β, s2, n2, pl2, q, N, hi, bi, si, sz, bt, vl, tn, (D1.r M2.1.1 f2.rf').up (by omega) (by omega), M1.d M2 f2, J1.d f2, R⟩
    · exact absurd (by rw [e]) c_453
  rcases hp with ⟨a, er, C1⟩ | ⟨a, er, C1⟩
  · refine go _ _ _ C1 (fun r2 c2 hp => ?_)
    obtain ⟨hp, f2⟩ := hp
    rcases hp with ⟨a2, er2, M2⟩ | ⟨a2, er2, M2⟩
    · first | exact ⟨by omega, by assumption, f2⟩ | (exfalso; first | contradiction | omega)
    · first | exact ⟨by omega, by assumption, f2⟩ | (exfalso; first | contradiction | omega)
  · refine go _ _ _ C1 (fun r2 c2 hp => ?_)
    obtain ⟨hp, f2⟩ := hp
    rcases hp with ⟨a2, er2, M2⟩ | ⟨a2, er2, M2⟩
    · first | exact ⟨by omega, by assumption, f2⟩ | (exfalso; first | contradiction | omega)
    · first | exact ⟨by omega, by assumption, f2⟩ | (exfalso; first | contradiction | omega)
theorem L_mark (hL : L ≤ 3072) (hi0 : 0 ≤ i) (hiL : i + 6 ≤ (L : Int)) (I : INV sh ct (4 * i)) (kk : ∀ sh2 ct2, INV sh2 ct2 (4 * (i + 6)) → G (KL nm b0 L xs) 1490 [some (.inr (.inr (-11))), some (.inr (.inr 0)), some (.inr (.inr 92)), some (.inl i)] [] sh2 ct2) : G (KL nm b0 L xs) 458 [some (.inr (.inr (-11))), some (.inr (.inr 0)), some (.inr (.inr 92)), some (.inl i)] [] sh ct := by
  obtain ⟨b, o, β, s, n, pl, q, N, hi, bi, si, sz, bt, vl, tn, C, M, J, R⟩ := I
  have S := R.1
  refine g_aload_n (q := 459) dL_law_458 rfl rfl ?_
  refine g_aload_n (q := 460) dL_law_459 rfl rfl ?_
  refine g_iload_n (q := 461) dL_law_460 rfl rfl ?_
  refine g_iconst (q := 462) dL_law_461 rfl ?_
  refine g_iadd (q := 463) dL_law_462 rfl ?_
  refine g_sld (q := 464) hi0 hiL (by omega) (by omega) dL_law_463 rfl ?_
  refine g_aload_n (q := 465) dL_law_464 rfl rfl ?_
  refine g_iload_n (q := 466) dL_law_465 rfl rfl ?_
  refine g_iconst (q := 467) dL_law_466 rfl ?_
  refine g_iadd (q := 468) dL_law_467 rfl ?_
  refine g_sld (q := 469) hi0 hiL (by omega) (by omega) dL_law_468 rfl ?_
  refine g_callV (q := 472) lL_49 mX11_mark nX11_mark rfl (x_mark 0 sh _ S C.1 (sv_i xs (i + 1)) (sv_i xs (i + 2))) (S.at _ rfl) rfl rfl shLe.rf (rmL R (by decide)) (Nat.le_of_ble_eq_true rfl) dL_law_469 rfl rfl (kI fun r c1 hp => ?_)
  obtain ⟨hp, f1⟩ := hp
  have go : ∀ s2 n2 pl2, CP sh c1 b β s2 n2 pl2 q N (4 * i) → (∀ r2 c2, ((¬ mrkOk β (sv xs (i + 1)) (sv xs (i + 2)) ∧ r2 = -11 ∧ MP c2 β s n pl) ∨ (mrkOk β (sv xs (i + 1)) (sv xs (i + 2)) ∧ r2 = s.2.2 (sv xs (i + 1)) ∧ MP c2 β (mrkS s (sv xs (i + 1)) (sv xs (i + 2))) (pushN n) (pushP n pl s))) ∧ dF c1 c2 → r = r2 ∧ MP c2 β s2 n2 pl2 ∧ dF c1 c2) → G (KL nm b0 L xs) 472 [some (.inr (.inr (-11))), some (.inr (.inr 0)), some (.inr (.inr 92)), some (.inl i)] [.inl r] sh c1 := by
    intro s2 n2 pl2 C1 hh
    obtain ⟨D1, e1, e2⟩ := C.d C1 f1
    have M1 := M.cl D1.L e1
    have J1 := J.cl e1 e2
    refine g_aload_n (q := 473) dL_law_472 rfl rfl ?_
    refine g_aload_n (q := 474) dL_law_473 rfl rfl ?_
    refine g_iload_n (q := 475) dL_law_474 rfl rfl ?_
    refine g_iconst (q := 476) dL_law_475 rfl ?_
    refine g_iadd (q := 477) dL_law_476 rfl ?_
    refine g_sld (q := 478) hi0 hiL (by omega) (by omega) dL_law_477 rfl ?_
    refine g_aload_n (q := 479) dL_law_478 rfl rfl ?_
    refine g_iload_n (q := 480) dL_law_479 rfl rfl ?_
    refine g_iconst (q := 481) dL_law_480 rfl ?_
    refine g_iadd (q := 482) dL_law_481 rfl ?_
    refine g_sld (q := 483) hi0 hiL (by omega) (by omega) dL_law_482 rfl ?_
    refine g_callV (q := 486) lL_52 mX12_mark nX12_mark rfl (tw_mark 0 sh _ S M1.1 (sv_i xs (i + 1)) (sv_i xs (i + 2))) (S.at _ rfl) rfl rfl shLe.rf (rmL R (by decide)) (Nat.le_of_ble_eq_true rfl) dL_law_483 rfl rfl (kI fun r2 c2 hp => ?_)
    obtain ⟨e, M2, f2⟩ := hh r2 c2 hp
    refine g_icmp_eq (q := 489) (tg := 1490) dL_law_486 (by decide) rfl (fun c_486 => ?_) (fun c_486 => ?_)
    · exact kk sh c2 ⟨b, o, β, s2, n2, pl2, q, N, hi, bi, si, sz, bt, vl, tn, (D1.r M2.1.1 f2.rf').up (by omega) (by omega), M1.d M2 f2, J1.d f2, R⟩
    · exact absurd (by rw [e]) c_486
  rcases hp with ⟨a, er, C1⟩ | ⟨a, er, C1⟩
  · refine go _ _ _ C1 (fun r2 c2 hp => ?_)
    obtain ⟨hp, f2⟩ := hp
    rcases hp with ⟨a2, er2, M2⟩ | ⟨a2, er2, M2⟩
    · first | exact ⟨by omega, by assumption, f2⟩ | (exfalso; first | contradiction | omega)
    · first | exact ⟨by omega, by assumption, f2⟩ | (exfalso; first | contradiction | omega)
  · refine go _ _ _ C1 (fun r2 c2 hp => ?_)
    obtain ⟨hp, f2⟩ := hp
    rcases hp with ⟨a2, er2, M2⟩ | ⟨a2, er2, M2⟩
    · first | exact ⟨by omega, by assumption, f2⟩ | (exfalso; first | contradiction | omega)
    · first | exact ⟨by omega, by assumption, f2⟩ | (exfalso; first | contradiction | omega)
theorem L_undo (hL : L ≤ 3072) (hi0 : 0 ≤ i) (hiL : i + 6 ≤ (L : Int)) (I : INV sh ct (4 * i)) (kk : ∀ sh2 ct2, INV sh2 ct2 (4 * (i + 6)) → G (KL nm b0 L xs) 1490 [some (.inr (.inr (-11))), some (.inr (.inr 0)), some (.inr (.inr 92)), some (.inl i)] [] sh2 ct2) : G (KL nm b0 L xs) 504 [some (.inr (.inr (-11))), some (.inr (.inr 0)), some (.inr (.inr 92)), some (.inl i)] [] sh ct := by
  obtain ⟨b, o, β, s, n, pl, q, N, hi, bi, si, sz, bt, vl, tn, C, M, J, R⟩ := I
  have S := R.1
  refine g_aload_n (q := 505) dL_law_504 rfl rfl ?_
  refine g_aload_n (q := 506) dL_law_505 rfl rfl ?_
  refine g_iload_n (q := 507) dL_law_506 rfl rfl ?_
  refine g_iconst (q := 508) dL_law_507 rfl ?_
  refine g_iadd (q := 509) dL_law_508 rfl ?_
  refine g_sld (q := 510) hi0 hiL (by omega) (by omega) dL_law_509 rfl ?_
  refine g_callV (q := 513) lL_57 mX11_undo nX11_undo rfl (x_undo 0 sh _ S C.1 (sv_i xs (i + 1))) (S.at _ rfl) rfl rfl shLe.rf (rmL R (by decide)) (Nat.le_of_ble_eq_true rfl) dL_law_510 rfl rfl (kI fun r c1 hp => ?_)
  obtain ⟨hp, f1⟩ := hp
  have go : ∀ s2 n2 pl2, CP sh c1 b β s2 n2 pl2 q N (4 * i) → (∀ r2 c2, ((¬ (1 ≤ (sv xs (i + 1)) ∧ (sv xs (i + 1)) ≤ n) ∧ r2 = -3 ∧ MP c2 β s n pl) ∨ ((1 ≤ (sv xs (i + 1)) ∧ (sv xs (i + 1)) ≤ n) ∧ r2 = n - (sv xs (i + 1)) ∧ MP c2 β (pl (n - (sv xs (i + 1)))) (n - (sv xs (i + 1))) pl)) ∧ dF c1 c2 → r = r2 ∧ MP c2 β s2 n2 pl2 ∧ dF c1 c2) → G (KL nm b0 L xs) 513 [some (.inr (.inr (-11))), some (.inr (.inr 0)), some (.inr (.inr 92)), some (.inl i)] [.inl r] sh c1 := by
    intro s2 n2 pl2 C1 hh
    obtain ⟨D1, e1, e2⟩ := C.d C1 f1
    have M1 := M.cl D1.L e1
    have J1 := J.cl e1 e2
    refine g_aload_n (q := 514) dL_law_513 rfl rfl ?_
    refine g_aload_n (q := 515) dL_law_514 rfl rfl ?_
    refine g_iload_n (q := 516) dL_law_515 rfl rfl ?_
    refine g_iconst (q := 517) dL_law_516 rfl ?_
    refine g_iadd (q := 518) dL_law_517 rfl ?_
    refine g_sld (q := 519) hi0 hiL (by omega) (by omega) dL_law_518 rfl ?_
    refine g_callV (q := 522) lL_60 mX12_undo nX12_undo rfl (tw_undo 0 sh _ S M1.1 (sv_i xs (i + 1))) (S.at _ rfl) rfl rfl shLe.rf (rmL R (by decide)) (Nat.le_of_ble_eq_true rfl) dL_law_519 rfl rfl (kI fun r2 c2 hp => ?_)
    obtain ⟨e, M2, f2⟩ := hh r2 c2 hp
    refine g_icmp_eq (q := 525) (tg := 1490) dL_law_522 (by decide) rfl (fun c_522 => ?_) (fun c_522 => ?_)
    · exact kk sh c2 ⟨b, o, β, s2, n2, pl2, q, N, hi, bi, si, sz, bt, vl, tn, (D1.r M2.1.1 f2.rf').up (by omega) (by omega), M1.d M2 f2, J1.d f2, R⟩
    · exact absurd (by rw [e]) c_522
  rcases hp with ⟨a, er, C1⟩ | ⟨a, er, C1⟩
  · refine go _ _ _ C1 (fun r2 c2 hp => ?_)
    obtain ⟨hp, f2⟩ := hp
    rcases hp with ⟨a2, er2, M2⟩ | ⟨a2, er2, M2⟩
    · first | exact ⟨by omega, by assumption, f2⟩ | (exfalso; first | contradiction | omega)
    · first | exact ⟨by omega, by assumption, f2⟩ | (exfalso; first | contradiction | omega)
  · refine go _ _ _ C1 (fun r2 c2 hp => ?_)
    obtain ⟨hp, f2⟩ := hp
    rcases hp with ⟨a2, er2, M2⟩ | ⟨a2, er2, M2⟩
    · first | exact ⟨by omega, by assumption, f2⟩ | (exfalso; first | contradiction | omega)
    · first | exact ⟨by omega, by assumption, f2⟩ | (exfalso; first | contradiction | omega)
theorem L_adjourn (hL : L ≤ 3072) (hi0 : 0 ≤ i) (hiL : i + 6 ≤ (L : Int)) (I : INV sh ct (4 * i)) (kk : ∀ sh2 ct2, INV sh2 ct2 (4 * (i + 6)) → G (KL nm b0 L xs) 1490 [some (.inr (.inr (-11))), some (.inr (.inr 0)), some (.inr (.inr 92)), some (.inl i)] [] sh2 ct2) : G (KL nm b0 L xs) 491 [some (.inr (.inr (-11))), some (.inr (.inr 0)), some (.inr (.inr 92)), some (.inl i)] [] sh ct := by
  obtain ⟨b, o, β, s, n, pl, q, N, hi, bi, si, sz, bt, vl, tn, C, M, J, R⟩ := I
  have S := R.1
  refine g_aload_n (q := 492) dL_law_491 rfl rfl ?_
  refine g_callV (q := 495) lL_53 mX11_adjourn nX11_adjourn rfl (x_adjourn 0 sh _ S C.1) (S.at _ rfl) rfl rfl shLe.rf (rmL R (by decide)) (Nat.le_of_ble_eq_true rfl) dL_law_492 rfl rfl (kI fun r c1 hp => ?_)
  obtain ⟨a1, C1, f1⟩ := hp
  obtain ⟨D1, e1, e2⟩ := C.d C1 f1
  have M1 := M.cl D1.L e1
  have J1 := J.cl e1 e2
  refine g_aload_n (q := 496) dL_law_495 rfl rfl ?_
  refine g_callV (q := 499) lL_56 mX12_adjourn nX12_adjourn rfl (tw_adjourn 0 sh _ S M1.1) (S.at _ rfl) rfl rfl shLe.rf (rmL R (by decide)) (Nat.le_of_ble_eq_true rfl) dL_law_496 rfl rfl (kI fun r2 c2 hp => ?_)
  obtain ⟨a2, M2, f2⟩ := hp
  have e : r = r2 := a1.trans a2.symm
  refine g_icmp_eq (q := 502) (tg := 1490) dL_law_499 (by decide) rfl (fun c_499 => ?_) (fun c_499 => ?_)
  · exact kk sh c2 ⟨b, o, β, adjS β s, pushN n, pushP n pl s, q, N, hi, bi, si, sz, bt, vl, tn, (D1.r M2.1.1 f2.rf').up (by omega) (by omega), M1.d M2 f2, J1.d f2, R⟩
  · exact absurd (by rw [e]) c_499
theorem L_judge (hL : L ≤ 3072) (hi0 : 0 ≤ i) (hiL : i + 6 ≤ (L : Int)) (I : INV sh ct (4 * i)) (kk : ∀ sh2 ct2, INV sh2 ct2 (4 * (i + 6)) → G (KL nm b0 L xs) 1490 [some (.inr (.inr (-11))), some (.inr (.inr 0)), some (.inr (.inr 92)), some (.inl i)] [] sh2 ct2) : G (KL nm b0 L xs) 527 [some (.inr (.inr (-11))), some (.inr (.inr 0)), some (.inr (.inr 92)), some (.inl i)] [] sh ct := by
  obtain ⟨b, o, β, s, n, pl, q, N, hi, bi, si, sz, bt, vl, tn, C, M, J, R⟩ := I
  have S := R.1
  refine g_aload_n (q := 528) dL_law_527 rfl rfl ?_
  refine g_aload_n (q := 529) dL_law_528 rfl rfl ?_
  refine g_iload_n (q := 530) dL_law_529 rfl rfl ?_
  refine g_iconst (q := 531) dL_law_530 rfl ?_
  refine g_iadd (q := 532) dL_law_531 rfl ?_
  refine g_sld (q := 533) hi0 hiL (by omega) (by omega) dL_law_532 rfl ?_
  refine g_aload_n (q := 534) dL_law_533 rfl rfl ?_
  refine g_iload_n (q := 535) dL_law_534 rfl rfl ?_
  refine g_iconst (q := 536) dL_law_535 rfl ?_
  refine g_iadd (q := 537) dL_law_536 rfl ?_
  refine g_sld (q := 538) hi0 hiL (by omega) (by omega) dL_law_537 rfl ?_
  refine g_callV (q := 541) lL_61 mX11_judge nX11_judge rfl (x_judge 0 sh _ S C.1 C.2.1 (sv_i xs (i + 1)) (sv_i xs (i + 2))) (S.at _ rfl) rfl rfl shLe.rf (rmL R (by decide)) (Nat.le_of_ble_eq_true rfl) dL_law_538 rfl rfl (kI fun r c1 hp => ?_)
  obtain ⟨a1, C1, f1⟩ := hp
  obtain ⟨D1, e1, e2⟩ := C.d C1 f1
  have M1 := M.cl D1.L e1
  have J1 := J.cl e1 e2
  refine g_aload_n (q := 542) dL_law_541 rfl rfl ?_
  refine g_aload_n (q := 543) dL_law_542 rfl rfl ?_
  refine g_iload_n (q := 544) dL_law_543 rfl rfl ?_
  refine g_iconst (q := 545) dL_law_544 rfl ?_
  refine g_iadd (q := 546) dL_law_545 rfl ?_
  refine g_sld (q := 547) hi0 hiL (by omega) (by omega) dL_law_546 rfl ?_
  refine g_aload_n (q := 548) dL_law_547 rfl rfl ?_
  refine g_iload_n (q := 549) dL_law_548 rfl rfl ?_
  refine g_iconst (q := 550) dL_law_549 rfl ?_
  refine g_iadd (q := 551) dL_law_550 rfl ?_
  refine g_sld (q := 552) hi0 hiL (by omega) (by omega) dL_law_551 rfl ?_
  refine g_callV (q := 555) lL_64 mX12_judge nX12_judge rfl (tw_judge 0 sh _ S M1.1 M1.2.1 (sv_i xs (i + 1)) (sv_i xs (i + 2))) (S.at _ rfl) rfl rfl shLe.rf (rmL R (by decide)) (Nat.le_of_ble_eq_true rfl) dL_law_552 rfl rfl (kI fun r2 c2 hp => ?_)
  obtain ⟨a2, M2, f2⟩ := hp
  have e : r = r2 := qJudge.uni a1 a2
  refine g_icmp_eq (q := 558) (tg := 1490) dL_law_555 (by decide) rfl (fun c_555 => ?_) (fun c_555 => ?_)
  · exact kk sh c2 ⟨b, o, β, s, n, pl, q, N, hi, bi, si, sz, bt, vl, tn, (D1.r M2.1.1 f2.rf').up (by omega) (by omega), M1.d M2 f2, J1.d f2, R⟩
  · exact absurd (by rw [e]) c_555
theorem L_perform (hL : L ≤ 3072) (hi0 : 0 ≤ i) (hiL : i + 6 ≤ (L : Int)) (I : INV sh ct (4 * i)) (kk : ∀ sh2 ct2, INV sh2 ct2 (4 * (i + 6)) → G (KL nm b0 L xs) 1490 [some (.inr (.inr (-11))), some (.inr (.inr 0)), some (.inr (.inr 92)), some (.inl i)] [] sh2 ct2) : G (KL nm b0 L xs) 560 [some (.inr (.inr (-11))), some (.inr (.inr 0)), some (.inr (.inr 92)), some (.inl i)] [] sh ct := by
  obtain ⟨b, o, β, s, n, pl, q, N, hi, bi, si, sz, bt, vl, tn, C, M, J, R⟩ := I
  have S := R.1
  refine g_aload_n (q := 561) dL_law_560 rfl rfl ?_
  refine g_aload_n (q := 562) dL_law_561 rfl rfl ?_
  refine g_iload_n (q := 563) dL_law_562 rfl rfl ?_
  refine g_iconst (q := 564) dL_law_563 rfl ?_
  refine g_iadd (q := 565) dL_law_564 rfl ?_
  refine g_sld (q := 566) hi0 hiL (by omega) (by omega) dL_law_565 rfl ?_
  refine g_callV (q := 569) lL_65 mX11_perform nX11_perform rfl (x_perform 0 sh _ S C.1 C.2.1 (sv_i xs (i + 1))) (S.at _ rfl) rfl rfl shLe.rf (rmL R (by decide)) (Nat.le_of_ble_eq_true rfl) dL_law_566 rfl rfl (kI fun r c1 hp => ?_)
  obtain ⟨hp, f1⟩ := hp
  have go : ∀ s2 n2 pl2, CP sh c1 b β s2 n2 pl2 q N (4 * i) → (∀ r2 c2, ((¬ isTr (sv xs (i + 1)) ∧ r2 = -2 ∧ MP c2 β s n pl) ∨ (isTr (sv xs (i + 1)) ∧ sz (sv xs (i + 1)) = -1 ∧ r2 = -6 ∧ MP c2 β s n pl) ∨ (isTr (sv xs (i + 1)) ∧ sz (sv xs (i + 1)) ≠ -1 ∧ r2 = (dRun β (vl (sv xs (i + 1))) (sz (sv xs (i + 1))).toNat (sz (sv xs (i + 1))).toNat s).1 ∧ ((r2 = 0 ∧ MP c2 β s n pl) ∨ (0 < r2 ∧ MP c2 β (dRun β (vl (sv xs (i + 1))) (sz (sv xs (i + 1))).toNat (sz (sv xs (i + 1))).toNat s).2.1 (pushN n) (pushP n pl s))))) ∧ dF c1 c2 → r = r2 ∧ MP c2 β s2 n2 pl2 ∧ dF c1 c2) → G (KL nm b0 L xs) 569 [some (.inr (.inr (-11))), some (.inr (.inr 0)), some (.inr (.inr 92)), some (.inl i)] [.inl r] sh c1 := by
    intro s2 n2 pl2 C1 hh
    obtain ⟨D1, e1, e2⟩ := C.d C1 f1
    have M1 := M.cl D1.L e1
    have J1 := J.cl e1 e2
    refine g_aload_n (q := 570) dL_law_569 rfl rfl ?_
    refine g_aload_n (q := 571) dL_law_570 rfl rfl ?_
    refine g_iload_n (q := 572) dL_law_571 rfl rfl ?_
    refine g_iconst (q := 573) dL_law_572 rfl ?_
    refine g_iadd (q := 574) dL_law_573 rfl ?_
    refine g_sld (q := 575) hi0 hiL (by omega) (by omega) dL_law_574 rfl ?_
    refine g_callV (q := 578) lL_68 mX12_perform nX12_perform rfl (tw_perform 0 sh _ S M1.1 M1.2.1 (sv_i xs (i + 1))) (S.at _ rfl) rfl rfl shLe.rf (rmL R (by decide)) (Nat.le_of_ble_eq_true rfl) dL_law_575 rfl rfl (kI fun r2 c2 hp => ?_)
    obtain ⟨e, M2, f2⟩ := hh r2 c2 hp
    refine g_icmp_eq (q := 581) (tg := 1490) dL_law_578 (by decide) rfl (fun c_578 => ?_) (fun c_578 => ?_)
    · exact kk sh c2 ⟨b, o, β, s2, n2, pl2, q, N, hi, bi, si, sz, bt, vl, tn, (D1.r M2.1.1 f2.rf').up (by omega) (by omega), M1.d M2 f2, J1.d f2, R⟩
    · exact absurd (by rw [e]) c_578
  rcases hp with ⟨a, er, C1⟩ | ⟨a, az, er, C1⟩ | ⟨a, az, er, ⟨ar, C1⟩ | ⟨ar, C1⟩⟩
  · refine go _ _ _ C1 (fun r2 c2 hp => ?_)
    obtain ⟨hp, f2⟩ := hp
    rcases hp with ⟨a2, er2, M2⟩ | ⟨a2, az2, er2, M2⟩ | ⟨a2, az2, er2, ⟨ar2, M2⟩ | ⟨ar2, M2⟩⟩
    · first | exact ⟨by omega, by assumption, f2⟩ | (exfalso; first | contradiction | omega)
    · first | exact ⟨by omega, by assumption, f2⟩ | (exfalso; first | contradiction | omega)
    · first | exact ⟨by omega, by assumption, f2⟩ | (exfalso; first | contradiction | omega)
    · first | exact ⟨by omega, by assumption, f2⟩ | (exfalso; first | contradiction | omega)
  · refine go _ _ _ C1 (fun r2 c2 hp => ?_)
    obtain ⟨hp, f2⟩ := hp
    rcases hp with ⟨a2, er2, M2⟩ | ⟨a2, az2, er2, M2⟩ | ⟨a2, az2, er2, ⟨ar2, M2⟩ | ⟨ar2, M2⟩⟩
    · first | exact ⟨by omega, by assumption, f2⟩ | (exfalso; first | contradiction | omega)
    · first | exact ⟨by omega, by assumption, f2⟩ | (exfalso; first | contradiction | omega)
    · first | exact ⟨by omega, by assumption, f2⟩ | (exfalso; first | contradiction | omega)
    · first | exact ⟨by omega, by assumption, f2⟩ | (exfalso; first | contradiction | omega)
  · refine go _ _ _ C1 (fun r2 c2 hp => ?_)
    obtain ⟨hp, f2⟩ := hp
    rcases hp with ⟨a2, er2, M2⟩ | ⟨a2, az2, er2, M2⟩ | ⟨a2, az2, er2, ⟨ar2, M2⟩ | ⟨ar2, M2⟩⟩
    · first | exact ⟨by omega, by assumption, f2⟩ | (exfalso; first | contradiction | omega)
    · first | exact ⟨by omega, by assumption, f2⟩ | (exfalso; first | contradiction | omega)
    · first | exact ⟨by omega, by assumption, f2⟩ | (exfalso; first | contradiction | omega)
    · first | exact ⟨by omega, by assumption, f2⟩ | (exfalso; first | contradiction | omega)
  · refine go _ _ _ C1 (fun r2 c2 hp => ?_)
    obtain ⟨hp, f2⟩ := hp
    rcases hp with ⟨a2, er2, M2⟩ | ⟨a2, az2, er2, M2⟩ | ⟨a2, az2, er2, ⟨ar2, M2⟩ | ⟨ar2, M2⟩⟩
    · first | exact ⟨by omega, by assumption, f2⟩ | (exfalso; first | contradiction | omega)
    · first | exact ⟨by omega, by assumption, f2⟩ | (exfalso; first | contradiction | omega)
    · first | exact ⟨by omega, by assumption, f2⟩ | (exfalso; first | contradiction | omega)
    · first | exact ⟨by omega, by assumption, f2⟩ | (exfalso; first | contradiction | omega)
theorem L_monday (hL : L ≤ 3072) (hi0 : 0 ≤ i) (hiL : i + 6 ≤ (L : Int)) (I : INV sh ct (4 * i)) (kk : ∀ sh2 ct2, INV sh2 ct2 (4 * (i + 6)) → G (KL nm b0 L xs) 1490 [some (.inr (.inr (-11))), some (.inr (.inr 0)), some (.inr (.inr 92)), some (.inl i)] [] sh2 ct2) : G (KL nm b0 L xs) 583 [some (.inr (.inr (-11))), some (.inr (.inr 0)), some (.inr (.inr 92)), some (.inl i)] [] sh ct := by
  obtain ⟨b, o, β, s, n, pl, q, N, hi, bi, si, sz, bt, vl, tn, C, M, J, R⟩ := I
  have S := R.1
  refine g_aload_n (q := 584) dL_law_583 rfl rfl ?_
  refine g_aload_n (q := 585) dL_law_584 rfl rfl ?_
  refine g_iload_n (q := 586) dL_law_585 rfl rfl ?_
  refine g_iconst (q := 587) dL_law_586 rfl ?_
  refine g_iadd (q := 588) dL_law_587 rfl ?_
  refine g_sld (q := 589) hi0 hiL (by omega) (by omega) dL_law_588 rfl ?_
  refine g_aload_n (q := 590) dL_law_589 rfl rfl ?_
  refine g_iload_n (q := 591) dL_law_590 rfl rfl ?_
  refine g_iconst (q := 592) dL_law_591 rfl ?_
  refine g_iadd (q := 593) dL_law_592 rfl ?_
  refine g_sld (q := 594) hi0 hiL (by omega) (by omega) dL_law_593 rfl ?_
  refine g_callV (q := 597) lL_69 mX11_monday nX11_monday rfl (x_monday 0 sh _ S C.1 (sv_i xs (i + 2))) (S.at _ rfl) rfl rfl shLe.rf (rmL R (by decide)) (Nat.le_of_ble_eq_true rfl) dL_law_594 rfl rfl (kI fun r c1 hp => ?_)
  obtain ⟨hp, f1⟩ := hp
  have go : ∀ s2 n2 pl2, CP sh c1 b β s2 n2 pl2 q N (4 * i) → (∀ r2 c2, ((¬ (1 ≤ (sv xs (i + 2)) ∧ (sv xs (i + 2)) ≤ 40) ∧ r2 = -3 ∧ MP c2 β s n pl) ∨ ((1 ≤ (sv xs (i + 2)) ∧ (sv xs (i + 2)) ≤ 40) ∧ r2 = (mRun β (sv xs (i + 2)).toNat s (sv xs (i + 1)) 0).2 ∧ ((r2 = 0 ∧ MP c2 β s n pl) ∨ (0 < r2 ∧ MP c2 β (mRun β (sv xs (i + 2)).toNat s (sv xs (i + 1)) 0).1 (pushN n) (pushP n pl s))))) ∧ dF c1 c2 → r = r2 ∧ MP c2 β s2 n2 pl2 ∧ dF c1 c2) → G (KL nm b0 L xs) 597 [some (.inr (.inr (-11))), some (.inr (.inr 0)), some (.inr (.inr 92)), some (.inl i)] [.inl r] sh c1 := by
    intro s2 n2 pl2 C1 hh
    obtain ⟨D1, e1, e2⟩ := C.d C1 f1
    have M1 := M.cl D1.L e1
    have J1 := J.cl e1 e2
    refine g_aload_n (q := 598) dL_law_597 rfl rfl ?_
    refine g_aload_n (q := 599) dL_law_598 rfl rfl ?_
    refine g_iload_n (q := 600) dL_law_599 rfl rfl ?_
    refine g_iconst (q := 601) dL_law_600 rfl ?_
    refine g_iadd (q := 602) dL_law_601 rfl ?_
    refine g_sld (q := 603) hi0 hiL (by omega) (by omega) dL_law_602 rfl ?_
    refine g_aload_n (q := 604) dL_law_603 rfl rfl ?_
    refine g_iload_n (q := 605) dL_law_604 rfl rfl ?_
    refine g_iconst (q := 606) dL_law_605 rfl ?_
    refine g_iadd (q := 607) dL_law_606 rfl ?_
    refine g_sld (q := 608) hi0 hiL (by omega) (by omega) dL_law_607 rfl ?_
    refine g_callV (q := 611) lL_72 mX12_monday nX12_monday rfl (tw_monday 0 sh _ S M1.1 (sv_i xs (i + 2))) (S.at _ rfl) rfl rfl shLe.rf (rmL R (by decide)) (Nat.le_of_ble_eq_true rfl) dL_law_608 rfl rfl (kI fun r2 c2 hp => ?_)
    obtain ⟨e, M2, f2⟩ := hh r2 c2 hp
    refine g_icmp_eq (q := 614) (tg := 1490) dL_law_611 (by decide) rfl (fun c_611 => ?_) (fun c_611 => ?_)
    · exact kk sh c2 ⟨b, o, β, s2, n2, pl2, q, N, hi, bi, si, sz, bt, vl, tn, (D1.r M2.1.1 f2.rf').up (by omega) (by omega), M1.d M2 f2, J1.d f2, R⟩
    · exact absurd (by rw [e]) c_611
  rcases hp with ⟨a, er, C1⟩ | ⟨a, er, ⟨ar, C1⟩ | ⟨ar, C1⟩⟩
  · refine go _ _ _ C1 (fun r2 c2 hp => ?_)
    obtain ⟨hp, f2⟩ := hp
    rcases hp with ⟨a2, er2, M2⟩ | ⟨a2, er2, ⟨ar2, M2⟩ | ⟨ar2, M2⟩⟩
    · first | exact ⟨by omega, by assumption, f2⟩ | (exfalso; first | contradiction | omega)
    · first | exact ⟨by omega, by assumption, f2⟩ | (exfalso; first | contradiction | omega)
    · first | exact ⟨by omega, by assumption, f2⟩ | (exfalso; first | contradiction | omega)
  · refine go _ _ _ C1 (fun r2 c2 hp => ?_)
    obtain ⟨hp, f2⟩ := hp
    rcases hp with ⟨a2, er2, M2⟩ | ⟨a2, er2, ⟨ar2, M2⟩ | ⟨ar2, M2⟩⟩
    · first | exact ⟨by omega, by assumption, f2⟩ | (exfalso; first | contradiction | omega)
    · first | exact ⟨by omega, by assumption, f2⟩ | (exfalso; first | contradiction | omega)
    · first | exact ⟨by omega, by assumption, f2⟩ | (exfalso; first | contradiction | omega)
  · refine go _ _ _ C1 (fun r2 c2 hp => ?_)
    obtain ⟨hp, f2⟩ := hp
    rcases hp with ⟨a2, er2, M2⟩ | ⟨a2, er2, ⟨ar2, M2⟩ | ⟨ar2, M2⟩⟩
    · first | exact ⟨by omega, by assumption, f2⟩ | (exfalso; first | contradiction | omega)
    · first | exact ⟨by omega, by assumption, f2⟩ | (exfalso; first | contradiction | omega)
    · first | exact ⟨by omega, by assumption, f2⟩ | (exfalso; first | contradiction | omega)
end
