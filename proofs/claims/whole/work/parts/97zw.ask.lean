/-! the law asks: first half -/
section
variable {nm : String} {b0 L : Nat} {xs : Nat → Int32} {sh : mbSh} {ct : mbCt} {i : Int}
theorem L_member (hL : L ≤ 3072) (hi0 : 0 ≤ i) (hiL : i + 6 ≤ (L : Int)) (I : INV sh ct (4 * i)) (kk : ∀ sh2 ct2, INV sh2 ct2 (4 * (i + 6)) → G (KL nm b0 L xs) 1490 [some (.inr (.inr (-11))), some (.inr (.inr 0)), some (.inr (.inr 92)), some (.inl i)] [] sh2 ct2) : G (KL nm b0 L xs) 333 [some (.inr (.inr (-11))), some (.inr (.inr 0)), some (.inr (.inr 92)), some (.inl i)] [] sh ct := by
  obtain ⟨b, o, β, s, n, pl, q, N, hi, bi, si, sz, bt, vl, tn, C, M, J, R⟩ := I
  have S := R.1
  refine g_aload_n (q := 334) dL_law_333 rfl rfl ?_
  refine g_aload_n (q := 335) dL_law_334 rfl rfl ?_
  refine g_iload_n (q := 336) dL_law_335 rfl rfl ?_
  refine g_iconst (q := 337) dL_law_336 rfl ?_
  refine g_iadd (q := 338) dL_law_337 rfl ?_
  refine g_sld (q := 339) hi0 hiL (by omega) (by omega) dL_law_338 rfl ?_
  refine g_aload_n (q := 340) dL_law_339 rfl rfl ?_
  refine g_iload_n (q := 341) dL_law_340 rfl rfl ?_
  refine g_iconst (q := 342) dL_law_341 rfl ?_
  refine g_iadd (q := 343) dL_law_342 rfl ?_
  refine g_sld (q := 344) hi0 hiL (by omega) (by omega) dL_law_343 rfl ?_
  refine g_callV (q := 347) lL_27 mX11_member nX11_member rfl (x_member 0 sh _ S C.1.1 (by omega) (sv_i xs (i + 1)) (sv_i xs (i + 2))) (S.at _ rfl) rfl rfl shLe.rf (rmL R (by decide)) (Nat.le_of_ble_eq_true rfl) dL_law_344 rfl rfl (kI fun r c1 hp => ?_)
  obtain ⟨a1, X1, f1⟩ := hp
  obtain ⟨C1, e1, e2⟩ := C.k X1 (f1.g C.1.1.qc)
  have M1 := M.cl C1.L e1
  have J1 := J.cl e1 e2
  refine g_aload_n (q := 348) dL_law_347 rfl rfl ?_
  refine g_aload_n (q := 349) dL_law_348 rfl rfl ?_
  refine g_iload_n (q := 350) dL_law_349 rfl rfl ?_
  refine g_iconst (q := 351) dL_law_350 rfl ?_
  refine g_iadd (q := 352) dL_law_351 rfl ?_
  refine g_sld (q := 353) hi0 hiL (by omega) (by omega) dL_law_352 rfl ?_
  refine g_aload_n (q := 354) dL_law_353 rfl rfl ?_
  refine g_iload_n (q := 355) dL_law_354 rfl rfl ?_
  refine g_iconst (q := 356) dL_law_355 rfl ?_
  refine g_iadd (q := 357) dL_law_356 rfl ?_
  refine g_sld (q := 358) hi0 hiL (by omega) (by omega) dL_law_357 rfl ?_
  refine g_callV (q := 361) lL_31 mX12_member nX12_member rfl (tw_member 0 sh _ S M1.1.1 (sv_i xs (i + 1)) (sv_i xs (i + 2))) (S.at _ rfl) rfl rfl shLe.rf (rmL R (by decide)) (Nat.le_of_ble_eq_true rfl) dL_law_358 rfl rfl (kI fun r2 c2 hp => ?_)
  obtain ⟨a2, f2⟩ := hp
  have e : r = r2 := qMember.uni a1 a2
  refine g_icmp_eq (q := 364) (tg := 1490) dL_law_361 (by decide) rfl (fun c_361 => ?_) (fun c_361 => ?_)
  · exact kk sh c2 ⟨b, o, β, s, n, pl, q, N, hi, bi, si, sz, bt, vl, tn, (C1.r (f2.L M1.L) f2.rf').up (by omega) (by omega), M1.k f2, J1.k f2, R⟩
  · exact absurd (by rw [e]) c_361
theorem L_saying (hL : L ≤ 3072) (hi0 : 0 ≤ i) (hiL : i + 6 ≤ (L : Int)) (I : INV sh ct (4 * i)) (kk : ∀ sh2 ct2, INV sh2 ct2 (4 * (i + 6)) → G (KL nm b0 L xs) 1490 [some (.inr (.inr (-11))), some (.inr (.inr 0)), some (.inr (.inr 92)), some (.inl i)] [] sh2 ct2) : G (KL nm b0 L xs) 366 [some (.inr (.inr (-11))), some (.inr (.inr 0)), some (.inr (.inr 92)), some (.inl i)] [] sh ct := by
  obtain ⟨b, o, β, s, n, pl, q, N, hi, bi, si, sz, bt, vl, tn, C, M, J, R⟩ := I
  have S := R.1
  refine g_aload_n (q := 367) dL_law_366 rfl rfl ?_
  refine g_aload_n (q := 368) dL_law_367 rfl rfl ?_
  refine g_iload_n (q := 369) dL_law_368 rfl rfl ?_
  refine g_iconst (q := 370) dL_law_369 rfl ?_
  refine g_iadd (q := 371) dL_law_370 rfl ?_
  refine g_sld (q := 372) hi0 hiL (by omega) (by omega) dL_law_371 rfl ?_
  refine g_aload_n (q := 373) dL_law_372 rfl rfl ?_
  refine g_iload_n (q := 374) dL_law_373 rfl rfl ?_
  refine g_iconst (q := 375) dL_law_374 rfl ?_
  refine g_iadd (q := 376) dL_law_375 rfl ?_
  refine g_sld (q := 377) hi0 hiL (by omega) (by omega) dL_law_376 rfl ?_
  refine g_callV (q := 380) lL_32 mX11_saying nX11_saying rfl (x_saying 0 sh _ S C.1.1 (by omega) (sv_i xs (i + 1)) (sv_i xs (i + 2))) (S.at _ rfl) rfl rfl shLe.rf (rmL R (by decide)) (Nat.le_of_ble_eq_true rfl) dL_law_377 rfl rfl (kI fun r c1 hp => ?_)
  obtain ⟨a1, X1, f1⟩ := hp
  obtain ⟨C1, e1, e2⟩ := C.k X1 (f1.g C.1.1.qc)
  have M1 := M.cl C1.L e1
  have J1 := J.cl e1 e2
  refine g_aload_n (q := 381) dL_law_380 rfl rfl ?_
  refine g_aload_n (q := 382) dL_law_381 rfl rfl ?_
  refine g_iload_n (q := 383) dL_law_382 rfl rfl ?_
  refine g_iconst (q := 384) dL_law_383 rfl ?_
  refine g_iadd (q := 385) dL_law_384 rfl ?_
  refine g_sld (q := 386) hi0 hiL (by omega) (by omega) dL_law_385 rfl ?_
  refine g_aload_n (q := 387) dL_law_386 rfl rfl ?_
  refine g_iload_n (q := 388) dL_law_387 rfl rfl ?_
  refine g_iconst (q := 389) dL_law_388 rfl ?_
  refine g_iadd (q := 390) dL_law_389 rfl ?_
  refine g_sld (q := 391) hi0 hiL (by omega) (by omega) dL_law_390 rfl ?_
  refine g_callV (q := 394) lL_35 mX12_saying nX12_saying rfl (tw_saying 0 sh _ S M1.1.1 (sv_i xs (i + 1)) (sv_i xs (i + 2))) (S.at _ rfl) rfl rfl shLe.rf (rmL R (by decide)) (Nat.le_of_ble_eq_true rfl) dL_law_391 rfl rfl (kI fun r2 c2 hp => ?_)
  obtain ⟨a2, f2⟩ := hp
  have e : r = r2 := qSaying.uni a1 a2
  refine g_icmp_eq (q := 397) (tg := 1490) dL_law_394 (by decide) rfl (fun c_394 => ?_) (fun c_394 => ?_)
  · exact kk sh c2 ⟨b, o, β, s, n, pl, q, N, hi, bi, si, sz, bt, vl, tn, (C1.r (f2.L M1.L) f2.rf').up (by omega) (by omega), M1.k f2, J1.k f2, R⟩
  · exact absurd (by rw [e]) c_394
theorem L_closed (hL : L ≤ 3072) (hi0 : 0 ≤ i) (hiL : i + 6 ≤ (L : Int)) (I : INV sh ct (4 * i)) (kk : ∀ sh2 ct2, INV sh2 ct2 (4 * (i + 6)) → G (KL nm b0 L xs) 1490 [some (.inr (.inr (-11))), some (.inr (.inr 0)), some (.inr (.inr 92)), some (.inl i)] [] sh2 ct2) : G (KL nm b0 L xs) 399 [some (.inr (.inr (-11))), some (.inr (.inr 0)), some (.inr (.inr 92)), some (.inl i)] [] sh ct := by
  obtain ⟨b, o, β, s, n, pl, q, N, hi, bi, si, sz, bt, vl, tn, C, M, J, R⟩ := I
  have S := R.1
  refine g_aload_n (q := 400) dL_law_399 rfl rfl ?_
  refine g_callV (q := 403) lL_36 mX11_closed nX11_closed rfl (x_closed 0 sh _ S C.1.1) (S.at _ rfl) rfl rfl shLe.rf (rmL R (by decide)) (Nat.le_of_ble_eq_true rfl) dL_law_400 rfl rfl (kI fun r c1 hp => ?_)
  obtain ⟨a1, X1, f1⟩ := hp
  obtain ⟨C1, e1, e2⟩ := C.k X1 (f1.g C.1.1.qc)
  have M1 := M.cl C1.L e1
  have J1 := J.cl e1 e2
  refine g_aload_n (q := 404) dL_law_403 rfl rfl ?_
  refine g_callV (q := 407) lL_40 mX12_closed nX12_closed rfl (tw_closed 0 sh _ S M1.1.1) (S.at _ rfl) rfl rfl shLe.rf (rmL R (by decide)) (Nat.le_of_ble_eq_true rfl) dL_law_404 rfl rfl (kI fun r2 c2 hp => ?_)
  obtain ⟨a2, f2⟩ := hp
  have e : r = r2 := a1.trans a2.symm
  refine g_icmp_eq (q := 410) (tg := 1490) dL_law_407 (by decide) rfl (fun c_407 => ?_) (fun c_407 => ?_)
  · exact kk sh c2 ⟨b, o, β, s, n, pl, q, N, hi, bi, si, sz, bt, vl, tn, (C1.r (f2.L M1.L) f2.rf').up (by omega) (by omega), M1.k f2, J1.k f2, R⟩
  · exact absurd (by rw [e]) c_407
theorem L_open (hL : L ≤ 3072) (hi0 : 0 ≤ i) (hiL : i + 6 ≤ (L : Int)) (I : INV sh ct (4 * i)) (kk : ∀ sh2 ct2, INV sh2 ct2 (4 * (i + 6)) → G (KL nm b0 L xs) 1490 [some (.inr (.inr (-11))), some (.inr (.inr 0)), some (.inr (.inr 92)), some (.inl i)] [] sh2 ct2) : G (KL nm b0 L xs) 412 [some (.inr (.inr (-11))), some (.inr (.inr 0)), some (.inr (.inr 92)), some (.inl i)] [] sh ct := by
  obtain ⟨b, o, β, s, n, pl, q, N, hi, bi, si, sz, bt, vl, tn, C, M, J, R⟩ := I
  have S := R.1
  refine g_aload_n (q := 413) dL_law_412 rfl rfl ?_
  refine g_callV (q := 416) lL_41 mX11_open nX11_open rfl (x_open 0 sh _ S C.1.1 (by omega)) (S.at _ rfl) rfl rfl shLe.rf (rmL R (by decide)) (Nat.le_of_ble_eq_true rfl) dL_law_413 rfl rfl (kI fun r c1 hp => ?_)
  obtain ⟨a1, X1, f1⟩ := hp
  obtain ⟨C1, e1, e2⟩ := C.k X1 (f1.g C.1.1.qc)
  have M1 := M.cl C1.L e1
  have J1 := J.cl e1 e2
  refine g_aload_n (q := 417) dL_law_416 rfl rfl ?_
  refine g_callV (q := 420) lL_44 mX12_open nX12_open rfl (tw_open 0 sh _ S M1.1.1) (S.at _ rfl) rfl rfl shLe.rf (rmL R (by decide)) (Nat.le_of_ble_eq_true rfl) dL_law_417 rfl rfl (kI fun r2 c2 hp => ?_)
  obtain ⟨a2, f2⟩ := hp
  have e : r = r2 := a1.trans a2.symm
  refine g_icmp_eq (q := 423) (tg := 1490) dL_law_420 (by decide) rfl (fun c_420 => ?_) (fun c_420 => ?_)
  · exact kk sh c2 ⟨b, o, β, s, n, pl, q, N, hi, bi, si, sz, bt, vl, tn, (C1.r (f2.L M1.L) f2.rf').up (by omega) (by omega), M1.k f2, J1.k f2, R⟩
  · exact absurd (by rw [e]) c_420
theorem L_shortest (hL : L ≤ 3072) (hi0 : 0 ≤ i) (hiL : i + 6 ≤ (L : Int)) (I : INV sh ct (4 * i)) (kk : ∀ sh2 ct2, INV sh2 ct2 (4 * (i + 6)) → G (KL nm b0 L xs) 1490 [some (.inr (.inr (-11))), some (.inr (.inr 0)), some (.inr (.inr 92)), some (.inl i)] [] sh2 ct2) : G (KL nm b0 L xs) 616 [some (.inr (.inr (-11))), some (.inr (.inr 0)), some (.inr (.inr 92)), some (.inl i)] [] sh ct := by
  obtain ⟨b, o, β, s, n, pl, q, N, hi, bi, si, sz, bt, vl, tn, C, M, J, R⟩ := I
  have S := R.1
  refine g_aload_n (q := 617) dL_law_616 rfl rfl ?_
  refine g_aload_n (q := 618) dL_law_617 rfl rfl ?_
  refine g_iload_n (q := 619) dL_law_618 rfl rfl ?_
  refine g_iconst (q := 620) dL_law_619 rfl ?_
  refine g_iadd (q := 621) dL_law_620 rfl ?_
  refine g_sld (q := 622) hi0 hiL (by omega) (by omega) dL_law_621 rfl ?_
  refine g_callV (q := 625) lL_73 mX11_shortest nX11_shortest rfl (x_shortest 0 sh _ S C.1.1 (by omega) (sv_i xs (i + 1))) (S.at _ rfl) rfl rfl shLe.rf (rmL R (by decide)) (Nat.le_of_ble_eq_true rfl) dL_law_622 rfl rfl (kI fun r c1 hp => ?_)
  obtain ⟨a1, X1, f1⟩ := hp
  obtain ⟨C1, e1, e2⟩ := C.k X1 (f1.g C.1.1.qc)
  have M1 := M.cl C1.L e1
  have J1 := J.cl e1 e2
  refine g_aload_n (q := 626) dL_law_625 rfl rfl ?_
  refine g_aload_n (q := 627) dL_law_626 rfl rfl ?_
  refine g_iload_n (q := 628) dL_law_627 rfl rfl ?_
  refine g_iconst (q := 629) dL_law_628 rfl ?_
  refine g_iadd (q := 630) dL_law_629 rfl ?_
  refine g_sld (q := 631) hi0 hiL (by omega) (by omega) dL_law_630 rfl ?_
  refine g_callV (q := 634) lL_76 mX12_shortest nX12_shortest rfl (tw_shortest 0 sh _ S M1.1.1.md (sv_i xs (i + 1))) (S.at _ rfl) rfl rfl shLe.rf (rmL R (by decide)) (Nat.le_of_ble_eq_true rfl) dL_law_631 rfl rfl (kI fun r2 c2 hp => ?_)
  obtain ⟨a2, f2⟩ := hp
  have e : r = r2 := qShort.uni a1 a2
  refine g_icmp_eq (q := 637) (tg := 1490) dL_law_634 (by decide) rfl (fun c_634 => ?_) (fun c_634 => ?_)
  · exact kk sh c2 ⟨b, o, β, s, n, pl, q, N, hi, bi, si, sz, bt, vl, tn, (C1.r (f2.L M1.L) f2.rf').up (by omega) (by omega), M1.k f2, J1.k f2, R⟩
  · exact absurd (by rw [e]) c_634
theorem L_minute (hL : L ≤ 3072) (hi0 : 0 ≤ i) (hiL : i + 6 ≤ (L : Int)) (I : INV sh ct (4 * i)) (kk : ∀ sh2 ct2, INV sh2 ct2 (4 * (i + 6)) → G (KL nm b0 L xs) 1490 [some (.inr (.inr (-11))), some (.inr (.inr 0)), some (.inr (.inr 92)), some (.inl i)] [] sh2 ct2) : G (KL nm b0 L xs) 639 [some (.inr (.inr (-11))), some (.inr (.inr 0)), some (.inr (.inr 92)), some (.inl i)] [] sh ct := by
  obtain ⟨b, o, β, s, n, pl, q, N, hi, bi, si, sz, bt, vl, tn, C, M, J, R⟩ := I
  have S := R.1
  refine g_aload_n (q := 640) dL_law_639 rfl rfl ?_
  refine g_aload_n (q := 641) dL_law_640 rfl rfl ?_
  refine g_iload_n (q := 642) dL_law_641 rfl rfl ?_
  refine g_iconst (q := 643) dL_law_642 rfl ?_
  refine g_iadd (q := 644) dL_law_643 rfl ?_
  refine g_sld (q := 645) hi0 hiL (by omega) (by omega) dL_law_644 rfl ?_
  refine g_aload_n (q := 646) dL_law_645 rfl rfl ?_
  refine g_iload_n (q := 647) dL_law_646 rfl rfl ?_
  refine g_iconst (q := 648) dL_law_647 rfl ?_
  refine g_iadd (q := 649) dL_law_648 rfl ?_
  refine g_sld (q := 650) hi0 hiL (by omega) (by omega) dL_law_649 rfl ?_
  refine g_callV (q := 653) lL_77 mX11_minute nX11_minute rfl (x_minute 0 sh _ S C.1.1 (by omega) (sv_i xs (i + 1)) (sv_i xs (i + 2))) (S.at _ rfl) rfl rfl shLe.rf (rmL R (by decide)) (Nat.le_of_ble_eq_true rfl) dL_law_650 rfl rfl (kI fun r c1 hp => ?_)
  obtain ⟨a1, X1, f1⟩ := hp
  obtain ⟨C1, e1, e2⟩ := C.k X1 (f1.g C.1.1.qc)
  have M1 := M.cl C1.L e1
  have J1 := J.cl e1 e2
  refine g_aload_n (q := 654) dL_law_653 rfl rfl ?_
  refine g_aload_n (q := 655) dL_law_654 rfl rfl ?_
  refine g_iload_n (q := 656) dL_law_655 rfl rfl ?_
  refine g_iconst (q := 657) dL_law_656 rfl ?_
  refine g_iadd (q := 658) dL_law_657 rfl ?_
  refine g_sld (q := 659) hi0 hiL (by omega) (by omega) dL_law_658 rfl ?_
  refine g_aload_n (q := 660) dL_law_659 rfl rfl ?_
  refine g_iload_n (q := 661) dL_law_660 rfl rfl ?_
  refine g_iconst (q := 662) dL_law_661 rfl ?_
  refine g_iadd (q := 663) dL_law_662 rfl ?_
  refine g_sld (q := 664) hi0 hiL (by omega) (by omega) dL_law_663 rfl ?_
  refine g_callV (q := 667) lL_80 mX12_minute nX12_minute rfl (tw_minute 0 sh _ S M1.1.1.md (sv_i xs (i + 1)) (sv_i xs (i + 2))) (S.at _ rfl) rfl rfl shLe.rf (rmL R (by decide)) (Nat.le_of_ble_eq_true rfl) dL_law_664 rfl rfl (kI fun r2 c2 hp => ?_)
  obtain ⟨a2, f2⟩ := hp
  have e : r = r2 := qMin.uni a1 a2
  refine g_icmp_eq (q := 670) (tg := 1490) dL_law_667 (by decide) rfl (fun c_667 => ?_) (fun c_667 => ?_)
  · exact kk sh c2 ⟨b, o, β, s, n, pl, q, N, hi, bi, si, sz, bt, vl, tn, (C1.r (f2.L M1.L) f2.rf').up (by omega) (by omega), M1.k f2, J1.k f2, R⟩
  · exact absurd (by rw [e]) c_667
theorem L_rows (hL : L ≤ 3072) (hi0 : 0 ≤ i) (hiL : i + 6 ≤ (L : Int)) (I : INV sh ct (4 * i)) (kk : ∀ sh2 ct2, INV sh2 ct2 (4 * (i + 6)) → G (KL nm b0 L xs) 1490 [some (.inr (.inr (-11))), some (.inr (.inr 0)), some (.inr (.inr 92)), some (.inl i)] [] sh2 ct2) : G (KL nm b0 L xs) 672 [some (.inr (.inr (-11))), some (.inr (.inr 0)), some (.inr (.inr 92)), some (.inl i)] [] sh ct := by
  obtain ⟨b, o, β, s, n, pl, q, N, hi, bi, si, sz, bt, vl, tn, C, M, J, R⟩ := I
  have S := R.1
  refine g_aload_n (q := 673) dL_law_672 rfl rfl ?_
  refine g_aload_n (q := 674) dL_law_673 rfl rfl ?_
  refine g_iload_n (q := 675) dL_law_674 rfl rfl ?_
  refine g_iconst (q := 676) dL_law_675 rfl ?_
  refine g_iadd (q := 677) dL_law_676 rfl ?_
  refine g_sld (q := 678) hi0 hiL (by omega) (by omega) dL_law_677 rfl ?_
  refine g_aload_n (q := 679) dL_law_678 rfl rfl ?_
  refine g_iload_n (q := 680) dL_law_679 rfl rfl ?_
  refine g_iconst (q := 681) dL_law_680 rfl ?_
  refine g_iadd (q := 682) dL_law_681 rfl ?_
  refine g_sld (q := 683) hi0 hiL (by omega) (by omega) dL_law_682 rfl ?_
  refine g_callV (q := 686) lL_81 mX11_rows nX11_rows rfl (x_rows 0 sh _ S C.1.1 (by omega) (sv_i xs (i + 1)) (sv_i xs (i + 2))) (S.at _ rfl) rfl rfl shLe.rf (rmL R (by decide)) (Nat.le_of_ble_eq_true rfl) dL_law_683 rfl rfl (kL fun r c1 hp => ?_)
  obtain ⟨a1, X1, f1⟩ := hp
  obtain ⟨C1, e1, e2⟩ := C.k X1 (f1.g C.1.1.qc)
  have M1 := M.cl C1.L e1
  have J1 := J.cl e1 e2
  refine g_aload_n (q := 687) dL_law_686 rfl rfl ?_
  refine g_aload_n (q := 688) dL_law_687 rfl rfl ?_
  refine g_iload_n (q := 689) dL_law_688 rfl rfl ?_
  refine g_iconst (q := 690) dL_law_689 rfl ?_
  refine g_iadd (q := 691) dL_law_690 rfl ?_
  refine g_sld (q := 692) hi0 hiL (by omega) (by omega) dL_law_691 rfl ?_
  refine g_aload_n (q := 693) dL_law_692 rfl rfl ?_
  refine g_iload_n (q := 694) dL_law_693 rfl rfl ?_
  refine g_iconst (q := 695) dL_law_694 rfl ?_
  refine g_iadd (q := 696) dL_law_695 rfl ?_
  refine g_sld (q := 697) hi0 hiL (by omega) (by omega) dL_law_696 rfl ?_
  refine g_callV (q := 700) lL_85 mX12_rows nX12_rows rfl (tw_rows 0 sh _ S M1.1.1.md (sv_i xs (i + 1)) (sv_i xs (i + 2))) (S.at _ rfl) rfl rfl shLe.rf (rmL R (by decide)) (Nat.le_of_ble_eq_true rfl) dL_law_697 rfl rfl (kL fun r2 c2 hp => ?_)
  obtain ⟨a2, f2⟩ := hp
  have e : r = r2 := qRows.uni a1 a2
  refine g_lcmp (q := 701) dL_law_700 rfl ?_
  refine g_if_eq (q := 704) (tg := 1490) dL_law_701 (by decide) rfl (fun c_701 => ?_) (fun c_701 => ?_)
  · exact kk sh c2 ⟨b, o, β, s, n, pl, q, N, hi, bi, si, sz, bt, vl, tn, (C1.r (f2.L M1.L) f2.rf').up (by omega) (by omega), M1.k f2, J1.k f2, R⟩
  · exact absurd (cmp_eq.mpr (by rw [e])) c_701
theorem L_without (hL : L ≤ 3072) (hi0 : 0 ≤ i) (hiL : i + 6 ≤ (L : Int)) (I : INV sh ct (4 * i)) (kk : ∀ sh2 ct2, INV sh2 ct2 (4 * (i + 6)) → G (KL nm b0 L xs) 1490 [some (.inr (.inr (-11))), some (.inr (.inr 0)), some (.inr (.inr 92)), some (.inl i)] [] sh2 ct2) : G (KL nm b0 L xs) 706 [some (.inr (.inr (-11))), some (.inr (.inr 0)), some (.inr (.inr 92)), some (.inl i)] [] sh ct := by
  obtain ⟨b, o, β, s, n, pl, q, N, hi, bi, si, sz, bt, vl, tn, C, M, J, R⟩ := I
  have S := R.1
  refine g_aload_n (q := 707) dL_law_706 rfl rfl ?_
  refine g_aload_n (q := 708) dL_law_707 rfl rfl ?_
  refine g_iload_n (q := 709) dL_law_708 rfl rfl ?_
  refine g_iconst (q := 710) dL_law_709 rfl ?_
  refine g_iadd (q := 711) dL_law_710 rfl ?_
  refine g_sld (q := 712) hi0 hiL (by omega) (by omega) dL_law_711 rfl ?_
  refine g_aload_n (q := 713) dL_law_712 rfl rfl ?_
  refine g_iload_n (q := 714) dL_law_713 rfl rfl ?_
  refine g_iconst (q := 715) dL_law_714 rfl ?_
  refine g_iadd (q := 716) dL_law_715 rfl ?_
  refine g_sld (q := 717) hi0 hiL (by omega) (by omega) dL_law_716 rfl ?_
  refine g_callV (q := 720) lL_86 mX11_without nX11_without rfl (x_without 0 sh _ S C.1.1 (by omega) (sv_i xs (i + 1)) (sv_i xs (i + 2))) (S.at _ rfl) rfl rfl shLe.rf (rmL R (by decide)) (Nat.le_of_ble_eq_true rfl) dL_law_717 rfl rfl (kI fun r c1 hp => ?_)
  obtain ⟨a1, X1, f1⟩ := hp
  obtain ⟨C1, e1, e2⟩ := C.k X1 (f1.g C.1.1.qc)
  have M1 := M.cl C1.L e1
  have J1 := J.cl e1 e2
  refine g_aload_n (q := 721) dL_law_720 rfl rfl ?_
  refine g_aload_n (q := 722) dL_law_721 rfl rfl ?_
  refine g_iload_n (q := 723) dL_law_722 rfl rfl ?_
  refine g_iconst (q := 724) dL_law_723 rfl ?_
  refine g_iadd (q := 725) dL_law_724 rfl ?_
  refine g_sld (q := 726) hi0 hiL (by omega) (by omega) dL_law_725 rfl ?_
  refine g_aload_n (q := 727) dL_law_726 rfl rfl ?_
  refine g_iload_n (q := 728) dL_law_727 rfl rfl ?_
  refine g_iconst (q := 729) dL_law_728 rfl ?_
  refine g_iadd (q := 730) dL_law_729 rfl ?_
  refine g_sld (q := 731) hi0 hiL (by omega) (by omega) dL_law_730 rfl ?_
  refine g_callV (q := 734) lL_89 mX12_without nX12_without rfl (tw_without 0 sh _ S M1.1.1.md (sv_i xs (i + 1)) (sv_i xs (i + 2))) (S.at _ rfl) rfl rfl shLe.rf (rmL R (by decide)) (Nat.le_of_ble_eq_true rfl) dL_law_731 rfl rfl (kI fun r2 c2 hp => ?_)
  obtain ⟨a2, f2⟩ := hp
  have e : r = r2 := qWithout.uni a1 a2
  refine g_icmp_eq (q := 737) (tg := 1490) dL_law_734 (by decide) rfl (fun c_734 => ?_) (fun c_734 => ?_)
  · exact kk sh c2 ⟨b, o, β, s, n, pl, q, N, hi, bi, si, sz, bt, vl, tn, (C1.r (f2.L M1.L) f2.rf').up (by omega) (by omega), M1.k f2, J1.k f2, R⟩
  · exact absurd (by rw [e]) c_734
theorem L_needed (hL : L ≤ 3072) (hi0 : 0 ≤ i) (hiL : i + 6 ≤ (L : Int)) (I : INV sh ct (4 * i)) (kk : ∀ sh2 ct2, INV sh2 ct2 (4 * (i + 6)) → G (KL nm b0 L xs) 1490 [some (.inr (.inr (-11))), some (.inr (.inr 0)), some (.inr (.inr 92)), some (.inl i)] [] sh2 ct2) : G (KL nm b0 L xs) 739 [some (.inr (.inr (-11))), some (.inr (.inr 0)), some (.inr (.inr 92)), some (.inl i)] [] sh ct := by
  obtain ⟨b, o, β, s, n, pl, q, N, hi, bi, si, sz, bt, vl, tn, C, M, J, R⟩ := I
  have S := R.1
  refine g_aload_n (q := 740) dL_law_739 rfl rfl ?_
  refine g_aload_n (q := 741) dL_law_740 rfl rfl ?_
  refine g_iload_n (q := 742) dL_law_741 rfl rfl ?_
  refine g_iconst (q := 743) dL_law_742 rfl ?_
  refine g_iadd (q := 744) dL_law_743 rfl ?_
  refine g_sld (q := 745) hi0 hiL (by omega) (by omega) dL_law_744 rfl ?_
  refine g_callV (q := 748) lL_90 mX11_needed nX11_needed rfl (x_needed 0 sh _ S C.1.1 (by omega) (sv_i xs (i + 1))) (S.at _ rfl) rfl rfl shLe.rf (rmL R (by decide)) (Nat.le_of_ble_eq_true rfl) dL_law_745 rfl rfl (kI fun r c1 hp => ?_)
  obtain ⟨a1, X1, f1⟩ := hp
  obtain ⟨C1, e1, e2⟩ := C.k X1 (f1.g C.1.1.qc)
  have M1 := M.cl C1.L e1
  have J1 := J.cl e1 e2
  refine g_aload_n (q := 749) dL_law_748 rfl rfl ?_
  refine g_aload_n (q := 750) dL_law_749 rfl rfl ?_
  refine g_iload_n (q := 751) dL_law_750 rfl rfl ?_
  refine g_iconst (q := 752) dL_law_751 rfl ?_
  refine g_iadd (q := 753) dL_law_752 rfl ?_
  refine g_sld (q := 754) hi0 hiL (by omega) (by omega) dL_law_753 rfl ?_
  refine g_callV (q := 757) lL_93 mX12_needed nX12_needed rfl (tw_needed 0 sh _ S M1.1.1.md (sv_i xs (i + 1))) (S.at _ rfl) rfl rfl shLe.rf (rmL R (by decide)) (Nat.le_of_ble_eq_true rfl) dL_law_754 rfl rfl (kI fun r2 c2 hp => ?_)
  obtain ⟨a2, f2⟩ := hp
  have e : r = r2 := qNeeded.uni a1 a2
  refine g_icmp_eq (q := 760) (tg := 1490) dL_law_757 (by decide) rfl (fun c_757 => ?_) (fun c_757 => ?_)
  · exact kk sh c2 ⟨b, o, β, s, n, pl, q, N, hi, bi, si, sz, bt, vl, tn, (C1.r (f2.L M1.L) f2.rf').up (by omega) (by omega), M1.k f2, J1.k f2, R⟩
  · exact absurd (by rw [e]) c_757
theorem L_tones (hL : L ≤ 3072) (hi0 : 0 ≤ i) (hiL : i + 6 ≤ (L : Int)) (I : INV sh ct (4 * i)) (kk : ∀ sh2 ct2, INV sh2 ct2 (4 * (i + 6)) → G (KL nm b0 L xs) 1490 [some (.inr (.inr (-11))), some (.inr (.inr 0)), some (.inr (.inr 92)), some (.inl i)] [] sh2 ct2) : G (KL nm b0 L xs) 818 [some (.inr (.inr (-11))), some (.inr (.inr 0)), some (.inr (.inr 92)), some (.inl i)] [] sh ct := by
  obtain ⟨b, o, β, s, n, pl, q, N, hi, bi, si, sz, bt, vl, tn, C, M, J, R⟩ := I
  have S := R.1
  refine g_aload_n (q := 819) dL_law_818 rfl rfl ?_
  refine g_callV (q := 822) lL_102 mX11_tones nX11_tones rfl (x_tones 0 sh _ S C.1.1 (by omega)) (S.at _ rfl) rfl rfl shLe.rf (rmL R (by decide)) (Nat.le_of_ble_eq_true rfl) dL_law_819 rfl rfl (kI fun r c1 hp => ?_)
  obtain ⟨a1, X1, f1⟩ := hp
  obtain ⟨C1, e1, e2⟩ := C.k X1 (f1.g C.1.1.qc)
  have M1 := M.cl C1.L e1
  have J1 := J.cl e1 e2
  refine g_aload_n (q := 823) dL_law_822 rfl rfl ?_
  refine g_callV (q := 826) lL_105 mX12_tones nX12_tones rfl (tw_tones 0 sh _ S M1.1.1.md) (S.at _ rfl) rfl rfl shLe.rf (rmL R (by decide)) (Nat.le_of_ble_eq_true rfl) dL_law_823 rfl rfl (kI fun r2 c2 hp => ?_)
  obtain ⟨a2, f2⟩ := hp
  have e : r = r2 := isSet.uni a1 a2
  refine g_icmp_eq (q := 829) (tg := 1490) dL_law_826 (by decide) rfl (fun c_826 => ?_) (fun c_826 => ?_)
  · exact kk sh c2 ⟨b, o, β, s, n, pl, q, N, hi, bi, si, sz, bt, vl, tn, (C1.r (f2.L M1.L) f2.rf').up (by omega) (by omega), M1.k f2, J1.k f2, R⟩
  · exact absurd (by rw [e]) c_826
theorem L_calmest (hL : L ≤ 3072) (hi0 : 0 ≤ i) (hiL : i + 6 ≤ (L : Int)) (I : INV sh ct (4 * i)) (kk : ∀ sh2 ct2, INV sh2 ct2 (4 * (i + 6)) → G (KL nm b0 L xs) 1490 [some (.inr (.inr (-11))), some (.inr (.inr 0)), some (.inr (.inr 92)), some (.inl i)] [] sh2 ct2) : G (KL nm b0 L xs) 831 [some (.inr (.inr (-11))), some (.inr (.inr 0)), some (.inr (.inr 92)), some (.inl i)] [] sh ct := by
  obtain ⟨b, o, β, s, n, pl, q, N, hi, bi, si, sz, bt, vl, tn, C, M, J, R⟩ := I
  have S := R.1
  refine g_aload_n (q := 832) dL_law_831 rfl rfl ?_
  refine g_aload_n (q := 833) dL_law_832 rfl rfl ?_
  refine g_iload_n (q := 834) dL_law_833 rfl rfl ?_
  refine g_iconst (q := 835) dL_law_834 rfl ?_
  refine g_iadd (q := 836) dL_law_835 rfl ?_
  refine g_sld (q := 837) hi0 hiL (by omega) (by omega) dL_law_836 rfl ?_
  refine g_aload_n (q := 838) dL_law_837 rfl rfl ?_
  refine g_iload_n (q := 839) dL_law_838 rfl rfl ?_
  refine g_iconst (q := 840) dL_law_839 rfl ?_
  refine g_iadd (q := 841) dL_law_840 rfl ?_
  refine g_sld (q := 842) hi0 hiL (by omega) (by omega) dL_law_841 rfl ?_
  refine g_callV (q := 845) lL_106 mX11_calmest nX11_calmest rfl (x_calmest 0 sh _ S C.1.1 (by omega) (sv_i xs (i + 1)) (sv_i xs (i + 2))) (S.at _ rfl) rfl rfl shLe.rf (rmL R (by decide)) (Nat.le_of_ble_eq_true rfl) dL_law_842 rfl rfl (kI fun r c1 hp => ?_)
  obtain ⟨a1, X1, f1⟩ := hp
  obtain ⟨C1, e1, e2⟩ := C.k X1 (f1.g C.1.1.qc)
  have M1 := M.cl C1.L e1
  have J1 := J.cl e1 e2
  refine g_aload_n (q := 846) dL_law_845 rfl rfl ?_
  refine g_aload_n (q := 847) dL_law_846 rfl rfl ?_
  refine g_iload_n (q := 848) dL_law_847 rfl rfl ?_
  refine g_iconst (q := 849) dL_law_848 rfl ?_
  refine g_iadd (q := 850) dL_law_849 rfl ?_
  refine g_sld (q := 851) hi0 hiL (by omega) (by omega) dL_law_850 rfl ?_
  refine g_aload_n (q := 852) dL_law_851 rfl rfl ?_
  refine g_iload_n (q := 853) dL_law_852 rfl rfl ?_
  refine g_iconst (q := 854) dL_law_853 rfl ?_
  refine g_iadd (q := 855) dL_law_854 rfl ?_
  refine g_sld (q := 856) hi0 hiL (by omega) (by omega) dL_law_855 rfl ?_
  refine g_callV (q := 859) lL_109 mX12_calmest nX12_calmest rfl (tw_calmest 0 sh _ S M1.1.1.md (sv_i xs (i + 1)) (sv_i xs (i + 2))) (S.at _ rfl) rfl rfl shLe.rf (rmL R (by decide)) (Nat.le_of_ble_eq_true rfl) dL_law_856 rfl rfl (kI fun r2 c2 hp => ?_)
  obtain ⟨a2, f2⟩ := hp
  have e : r = r2 := qCalm.uni a1 a2
  refine g_icmp_eq (q := 862) (tg := 1490) dL_law_859 (by decide) rfl (fun c_859 => ?_) (fun c_859 => ?_)
  · exact kk sh c2 ⟨b, o, β, s, n, pl, q, N, hi, bi, si, sz, bt, vl, tn, (C1.r (f2.L M1.L) f2.rf').up (by omega) (by omega), M1.k f2, J1.k f2, R⟩
  · exact absurd (by rw [e]) c_859
theorem L_keyword (hL : L ≤ 3072) (hi0 : 0 ≤ i) (hiL : i + 6 ≤ (L : Int)) (I : INV sh ct (4 * i)) (kk : ∀ sh2 ct2, INV sh2 ct2 (4 * (i + 6)) → G (KL nm b0 L xs) 1490 [some (.inr (.inr (-11))), some (.inr (.inr 0)), some (.inr (.inr 92)), some (.inl i)] [] sh2 ct2) : G (KL nm b0 L xs) 864 [some (.inr (.inr (-11))), some (.inr (.inr 0)), some (.inr (.inr 92)), some (.inl i)] [] sh ct := by
  obtain ⟨b, o, β, s, n, pl, q, N, hi, bi, si, sz, bt, vl, tn, C, M, J, R⟩ := I
  have S := R.1
  refine g_aload_n (q := 865) dL_law_864 rfl rfl ?_
  refine g_callV (q := 868) lL_110 mX11_keyword nX11_keyword rfl (x_keyword 0 sh _ S C.1.1 (by omega)) (S.at _ rfl) rfl rfl shLe.rf (rmL R (by decide)) (Nat.le_of_ble_eq_true rfl) dL_law_865 rfl rfl (kI fun r c1 hp => ?_)
  obtain ⟨a1, X1, f1⟩ := hp
  obtain ⟨C1, e1, e2⟩ := C.k X1 (f1.g C.1.1.qc)
  have M1 := M.cl C1.L e1
  have J1 := J.cl e1 e2
  refine g_aload_n (q := 869) dL_law_868 rfl rfl ?_
  refine g_callV (q := 872) lL_113 mX12_keyword nX12_keyword rfl (tw_keyword 0 sh _ S M1.1.1.md) (S.at _ rfl) rfl rfl shLe.rf (rmL R (by decide)) (Nat.le_of_ble_eq_true rfl) dL_law_869 rfl rfl (kI fun r2 c2 hp => ?_)
  obtain ⟨a2, f2⟩ := hp
  have e : r = r2 := qKey.uni a1 a2
  refine g_icmp_eq (q := 875) (tg := 1490) dL_law_872 (by decide) rfl (fun c_872 => ?_) (fun c_872 => ?_)
  · exact kk sh c2 ⟨b, o, β, s, n, pl, q, N, hi, bi, si, sz, bt, vl, tn, (C1.r (f2.L M1.L) f2.rf').up (by omega) (by omega), M1.k f2, J1.k f2, R⟩
  · exact absurd (by rw [e]) c_872
end
