/-! the law: images, counts, faults -/
section
variable {nm : String} {b0 L : Nat} {xs : Nat → Int32} {sh : mbSh} {ct : mbCt} {i : Int}
theorem L_image (hL : L ≤ 3072) (hi0 : 0 ≤ i) (hiL : i + 6 ≤ (L : Int)) (I : INV sh ct (4 * i)) (kk : ∀ sh2 ct2, INV sh2 ct2 (4 * (i + 6)) → G (KL nm b0 L xs) 1490 [some (.inr (.inr (-11))), some (.inr (.inr 0)), some (.inr (.inr 92)), some (.inl i)] [] sh2 ct2) : G (KL nm b0 L xs) 1421 [some (.inr (.inr (-11))), some (.inr (.inr 0)), some (.inr (.inr 92)), some (.inl i)] [] sh ct := by
  obtain ⟨b, o, β, s, n, pl, q, N, hi, bi, si, sz, bt, vl, tn, C, M, J, R⟩ := I
  have S := R.1
  refine g_aload_n (q := 1422) dL_law_1421 rfl rfl ?_
  refine g_aload_n (q := 1423) dL_law_1422 rfl rfl ?_
  refine g_iload_n (q := 1424) dL_law_1423 rfl rfl ?_
  refine g_iconst (q := 1425) dL_law_1424 rfl ?_
  refine g_iadd (q := 1426) dL_law_1425 rfl ?_
  refine g_sld (q := 1427) hi0 hiL (by omega) (by omega) dL_law_1426 rfl ?_
  refine g_callV (q := 1430) lL_187 mX11_image nX11_image rfl (x_image 0 sh _ S C.1.1 C.2.2.2.2.2.2.2 C.2.2.2.2.2.1 C.2.2.1 (sv_i xs (i + 1))) (S.at _ rfl) rfl rfl shLe.rf (rmL R (by decide)) (Nat.le_of_ble_eq_true rfl) dL_law_1427 rfl rfl (kI fun r c1 hp => ?_)
  obtain ⟨hp, L1, f1⟩ := hp
  have go : ∀ hi2 bi2 si2, IC c1 hi2 bi2 si2 → (∀ r2 c2, (((¬ (0 ≤ (sv xs (i + 1)) ∧ (sv xs (i + 1)) ≤ 1) ∧ r2 = -2 ∧ MI c2 hi bi si) ∨ ((0 ≤ (sv xs (i + 1)) ∧ (sv xs (i + 1)) ≤ 1) ∧ r2 = 0 ∧ MI c2 (up1 hi (sv xs (i + 1)) 1) (up1' bi (sv xs (i + 1)) β) (up1' si (sv xs (i + 1)) s))) ∧ MP c2 β s n pl ∧ eqBut [92, 93, 94] c1 c2 ∧ ∀ k, k ≠ 0 → c2 92 k = c1 92 k) → r = r2 ∧ MI c2 hi2 bi2 si2) → G (KL nm b0 L xs) 1430 [some (.inr (.inr (-11))), some (.inr (.inr 0)), some (.inr (.inr 92)), some (.inl i)] [.inl r] sh c1 := by
    intro hi2 bi2 si2 I1 hh
    obtain ⟨D1, e1, e2⟩ := C.i L1 f1 I1
    have M1 := M.cl L1 e1
    have J1 := J.cl e1 ⟨e2, f1 64 (by decide)⟩
    refine g_aload_n (q := 1431) dL_law_1430 rfl rfl ?_
    refine g_aload_n (q := 1432) dL_law_1431 rfl rfl ?_
    refine g_iload_n (q := 1433) dL_law_1432 rfl rfl ?_
    refine g_iconst (q := 1434) dL_law_1433 rfl ?_
    refine g_iadd (q := 1435) dL_law_1434 rfl ?_
    refine g_sld (q := 1436) hi0 hiL (by omega) (by omega) dL_law_1435 rfl ?_
    refine g_callV (q := 1439) lL_190 mX12_image nX12_image rfl (tw_image 0 sh _ S M1.1 M1.2.2.1 (sv_i xs (i + 1))) (S.at _ rfl) rfl rfl shLe.rf (rmL R (by decide)) (Nat.le_of_ble_eq_true rfl) dL_law_1436 rfl rfl (kI fun r2 c2 hp => ?_)
    obtain ⟨e, I2⟩ := hh r2 c2 hp
    obtain ⟨-, M2, f2, f3⟩ := hp
    refine g_icmp_eq (q := 1442) (tg := 1490) dL_law_1439 (by decide) rfl (fun c_1439 => ?_) (fun c_1439 => ?_)
    · exact kk sh c2 ⟨b, o, β, s, n, pl, q, N, hi2, bi2, si2, sz, bt, vl, tn, (D1.r M2.1.1 (eq3.rf' f2)).up (by omega) (by omega), M1.i M2 I2 f2 f3, J1.i f2 f3, R⟩
    · exact absurd (by rw [e]) c_1439
  rcases hp with ⟨a, er, C1⟩ | ⟨a, er, C1⟩
  · refine go _ _ _ C1 (fun r2 c2 hp => ?_)
    obtain ⟨hp, -⟩ := hp
    rcases hp with ⟨a2, er2, M2⟩ | ⟨a2, er2, M2⟩
    · first | exact ⟨by omega, by assumption⟩ | (exfalso; first | contradiction | omega)
    · first | exact ⟨by omega, by assumption⟩ | (exfalso; first | contradiction | omega)
  · refine go _ _ _ C1 (fun r2 c2 hp => ?_)
    obtain ⟨hp, -⟩ := hp
    rcases hp with ⟨a2, er2, M2⟩ | ⟨a2, er2, M2⟩
    · first | exact ⟨by omega, by assumption⟩ | (exfalso; first | contradiction | omega)
    · first | exact ⟨by omega, by assumption⟩ | (exfalso; first | contradiction | omega)
theorem L_restore (hL : L ≤ 3072) (hi0 : 0 ≤ i) (hiL : i + 6 ≤ (L : Int)) (I : INV sh ct (4 * i)) (kk : ∀ sh2 ct2, INV sh2 ct2 (4 * (i + 6)) → G (KL nm b0 L xs) 1490 [some (.inr (.inr (-11))), some (.inr (.inr 0)), some (.inr (.inr 92)), some (.inl i)] [] sh2 ct2) : G (KL nm b0 L xs) 1444 [some (.inr (.inr (-11))), some (.inr (.inr 0)), some (.inr (.inr 92)), some (.inl i)] [] sh ct := by
  obtain ⟨b, o, β, s, n, pl, q, N, hi, bi, si, sz, bt, vl, tn, C, M, J, R⟩ := I
  have S := R.1
  have hbo := C.bo
  refine g_aload_n (q := 1445) dL_law_1444 rfl rfl ?_
  refine g_aload_n (q := 1446) dL_law_1445 rfl rfl ?_
  refine g_iload_n (q := 1447) dL_law_1446 rfl rfl ?_
  refine g_iconst (q := 1448) dL_law_1447 rfl ?_
  refine g_iadd (q := 1449) dL_law_1448 rfl ?_
  refine g_sld (q := 1450) hi0 hiL (by omega) (by omega) dL_law_1449 rfl ?_
  refine g_callV (q := 1453) lL_191 mX11_restore nX11_restore rfl (x_restore 0 sh _ S C.1 (by omega) C.2.2.2.2.2.1 C.2.2.1 (sv_i xs (i + 1))) (S.at _ rfl) rfl rfl shLe.rf (rmL R (by decide)) (Nat.le_of_ble_eq_true rfl) dL_law_1450 rfl rfl (kI fun r c1 hp => ?_)
  have go : ∀ γ s2 n2 W, W ≤ 4 * i + 1 → INC sh c1 b o γ s2 n2 pl q N W hi bi si sz bt vl tn → clF ct c1 → (c1 1 = ct 1 ∧ c1 64 = ct 64) → (∀ r2 c2, (((¬ (0 ≤ (sv xs (i + 1)) ∧ (sv xs (i + 1)) ≤ 1) ∧ r2 = -2 ∧ MP c2 β s n pl) ∨ ((0 ≤ (sv xs (i + 1)) ∧ (sv xs (i + 1)) ≤ 1) ∧ hi (sv xs (i + 1)) = 0 ∧ r2 = -5 ∧ MP c2 β s n pl) ∨ ((0 ≤ (sv xs (i + 1)) ∧ (sv xs (i + 1)) ≤ 1) ∧ hi (sv xs (i + 1)) = 1 ∧ r2 = 0 ∧ MP c2 (bi (sv xs (i + 1))) (si (sv xs (i + 1))) 0 pl)) ∧ MI c2 hi bi si ∧ eqBut [92, 93] c1 c2 ∧ ∀ k, k ≠ 0 → c2 92 k = c1 92 k) → r = r2 ∧ MP c2 γ s2 n2 pl) → G (KL nm b0 L xs) 1453 [some (.inr (.inr (-11))), some (.inr (.inr 0)), some (.inr (.inr 92)), some (.inl i)] [.inl r] sh c1 := by
    intro γ s2 n2 W hW D1 e1 e2 hh
    have M1 := M.cl D1.L e1
    have J1 := J.cl e1 e2
    refine g_aload_n (q := 1454) dL_law_1453 rfl rfl ?_
    refine g_aload_n (q := 1455) dL_law_1454 rfl rfl ?_
    refine g_iload_n (q := 1456) dL_law_1455 rfl rfl ?_
    refine g_iconst (q := 1457) dL_law_1456 rfl ?_
    refine g_iadd (q := 1458) dL_law_1457 rfl ?_
    refine g_sld (q := 1459) hi0 hiL (by omega) (by omega) dL_law_1458 rfl ?_
    refine g_callV (q := 1462) lL_194 mX12_restore nX12_restore rfl (tw_restore 0 sh _ S M1.1 M1.2.2.1 (sv_i xs (i + 1))) (S.at _ rfl) rfl rfl shLe.rf (rmL R (by decide)) (Nat.le_of_ble_eq_true rfl) dL_law_1459 rfl rfl (kI fun r2 c2 hp => ?_)
    obtain ⟨e, M2⟩ := hh r2 c2 hp
    obtain ⟨-, I2, f2, f3⟩ := hp
    have f4 : eqBut [92, 93, 94] c1 c2 := f2.mono (by simp)
    refine g_icmp_eq (q := 1465) (tg := 1490) dL_law_1462 (by decide) rfl (fun c_1462 => ?_) (fun c_1462 => ?_)
    · exact kk sh c2 ⟨b, o, γ, s2, n2, pl, q, N, hi, bi, si, sz, bt, vl, tn, (D1.r M2.1.1 (eq3.rf' f4)).up (by omega) (by omega), M1.i M2 I2 f4 f3, J1.i f4 f3, R⟩
    · exact absurd (by rw [e]) c_1462
  rcases hp with ⟨a, er, rfl⟩ | ⟨a, ah, er, rfl⟩ | ⟨a, ah, er, ⟨γ, eγ, C1⟩, z1, z2, f1⟩
  · refine go β s n _ (by omega) C (fun _ _ _ => rfl) ⟨rfl, rfl⟩ (fun r2 c2 hp => ?_)
    obtain ⟨hp, -⟩ := hp
    rcases hp with ⟨a2, er2, M2⟩ | ⟨a2, ah2, er2, M2⟩ | ⟨a2, ah2, er2, M2⟩
    · first | exact ⟨by omega, by assumption⟩ | (exfalso; first | contradiction | omega)
    · first | exact ⟨by omega, by assumption⟩ | (exfalso; first | contradiction | omega)
    · first | exact ⟨by omega, by assumption⟩ | (exfalso; first | contradiction | omega)
  · refine go β s n _ (by omega) C (fun _ _ _ => rfl) ⟨rfl, rfl⟩ (fun r2 c2 hp => ?_)
    obtain ⟨hp, -⟩ := hp
    rcases hp with ⟨a2, er2, M2⟩ | ⟨a2, ah2, er2, M2⟩ | ⟨a2, ah2, er2, M2⟩
    · first | exact ⟨by omega, by assumption⟩ | (exfalso; first | contradiction | omega)
    · first | exact ⟨by omega, by assumption⟩ | (exfalso; first | contradiction | omega)
    · first | exact ⟨by omega, by assumption⟩ | (exfalso; first | contradiction | omega)
  · have e : ∀ x : Int, (x < 2 ∨ 16 < x) → x ∉ ([b, b + 1, b + 2, b + 3, b + 4, 70, 72, 73, 74] : List Int) → c1 x = ct x := fun x h1 h2 => f1 x (by simp at h2 ⊢; omega)
    obtain ⟨-, T, I, ⟨t1, t2, t3⟩, ⟨-, h3⟩, -, z4, -⟩ := C
    refine go γ (si (sv xs (i + 1))) 0 _ (by omega) ⟨C1, TC.cg ct T (fun x a b => e x (by omega) (by simp; omega)), I.cg (fun x a b => e x (by omega) (by simp; omega)), ⟨by rw [e 0 (by decide) (by simp; omega)]; exact t1, t2, by rw [e 1 (by decide) (by simp; omega)]; exact t3⟩, ⟨hbo, by rw [e 0 (by decide) (by simp; omega)]; exact h3⟩, z2, z4.cg (f1 _ (by simp; omega)), z1⟩ (fun x a b => e x (by omega) (by simp; omega)) ⟨e 1 (by decide) (by simp; omega), e 64 (by decide) (by simp; omega)⟩ (fun r2 c2 hp => ?_)
    obtain ⟨hp, -⟩ := hp
    rcases hp with ⟨a2, er2, M2⟩ | ⟨a2, ah2, er2, M2⟩ | ⟨a2, ah2, er2, M2⟩
    · exfalso; contradiction
    · exfalso; omega
    · exact ⟨by omega, M2.ev eγ⟩
theorem L_count (hL : L ≤ 3072) (hi0 : 0 ≤ i) (hiL : i + 6 ≤ (L : Int)) (I : INV sh ct (4 * i)) (kk : ∀ sh2 ct2, INV sh2 ct2 (4 * (i + 6)) → G (KL nm b0 L xs) 1490 [some (.inr (.inr (-11))), some (.inr (.inr 0)), some (.inr (.inr 92)), some (.inl i)] [] sh2 ct2) : G (KL nm b0 L xs) 1467 [some (.inr (.inr (-11))), some (.inr (.inr 0)), some (.inr (.inr 92)), some (.inl i)] [] sh ct := by
  obtain ⟨b, o, β, s, n, pl, q, N, hi, bi, si, sz, bt, vl, tn, C, M, J, R⟩ := I
  have S := R.1
  refine g_aload_n (q := 1468) dL_law_1467 rfl rfl ?_
  refine g_aload_n (q := 1469) dL_law_1468 rfl rfl ?_
  refine g_iload_n (q := 1470) dL_law_1469 rfl rfl ?_
  refine g_iconst (q := 1471) dL_law_1470 rfl ?_
  refine g_iadd (q := 1472) dL_law_1471 rfl ?_
  refine g_sld (q := 1473) hi0 hiL (by omega) (by omega) dL_law_1472 rfl ?_
  refine g_callV (q := 1476) lL_195 mX11_count nX11_count rfl (x_count 0 sh _ S C.1 (sv_i xs (i + 1)) C.2.2.2.1.1) (S.at _ rfl) rfl rfl shLe.rf (rmL R (by decide)) (Nat.le_of_ble_eq_true rfl) dL_law_1473 rfl rfl (kI fun r c1 hp => ?_)
  obtain ⟨a1, hc⟩ := hp
  subst hc
  refine g_aload_n (q := 1477) dL_law_1476 rfl rfl ?_
  refine g_aload_n (q := 1478) dL_law_1477 rfl rfl ?_
  refine g_iload_n (q := 1479) dL_law_1478 rfl rfl ?_
  refine g_iconst (q := 1480) dL_law_1479 rfl ?_
  refine g_iadd (q := 1481) dL_law_1480 rfl ?_
  refine g_sld (q := 1482) hi0 hiL (by omega) (by omega) dL_law_1481 rfl ?_
  refine g_callV (q := 1485) lL_198 mX12_count nX12_count rfl (tw_count 0 sh _ S M.1 (sv_i xs (i + 1)) M.2.2.2) (S.at _ rfl) rfl rfl shLe.rf (rmL R (by decide)) (Nat.le_of_ble_eq_true rfl) dL_law_1482 rfl rfl (kI fun r2 c2 hp => ?_)
  obtain ⟨a2, hc⟩ := hp
  have f2 : mF c1 c2 := by rw [hc]; exact mF.of0
  have e : r = r2 := a1.trans a2.symm
  refine g_icmp_eq (q := 1488) (tg := 1490) dL_law_1485 (by decide) rfl (fun c_1485 => ?_) (fun c_1485 => ?_)
  · exact kk sh c2 ⟨b, o, β, s, n, pl, q, N, hi, bi, si, sz, bt, vl, tn, (C.r (f2.L M.L) f2.rf').up (by omega) (by omega), M.k f2, J.k f2, R⟩
  · exact absurd (by rw [e]) c_1485
theorem L_fault (hL : L ≤ 3072) (hi0 : 0 ≤ i) (hiL : i + 6 ≤ (L : Int)) (I : INV sh ct (4 * i)) (kk : ∀ sh2 ct2, INV sh2 ct2 (4 * (i + 6)) → G (KL nm b0 L xs) 1490 [some (.inr (.inr (-11))), some (.inr (.inr 0)), some (.inr (.inr 92)), some (.inl i)] [] sh2 ct2) : G (KL nm b0 L xs) 310 [some (.inr (.inr (-11))), some (.inr (.inr 0)), some (.inr (.inr 92)), some (.inl i)] [] sh ct := by
  obtain ⟨b, o, β, s, n, pl, q, N, hi, bi, si, sz, bt, vl, tn, C, M, J, R⟩ := I
  have S := R.1
  refine g_aload_n (q := 311) dL_law_310 rfl rfl ?_
  refine g_aload_n (q := 312) dL_law_311 rfl rfl ?_
  refine g_iload_n (q := 313) dL_law_312 rfl rfl ?_
  refine g_iconst (q := 314) dL_law_313 rfl ?_
  refine g_iadd (q := 315) dL_law_314 rfl ?_
  refine g_sld (q := 316) hi0 hiL (by omega) (by omega) dL_law_315 rfl ?_
  refine g_callV (q := 319) lL_23 mX11_fault nX11_fault rfl (x_fault 0 sh _ S C.L (sv_i xs (i + 1))) (S.at _ rfl) rfl rfl shLe.rf (rmL R (by decide)) (Nat.le_of_ble_eq_true rfl) dL_law_316 rfl rfl (kI fun r c1 hp => ?_)
  obtain ⟨a1, hc⟩ := hp
  subst hc
  refine g_aload_n (q := 320) dL_law_319 rfl rfl ?_
  refine g_aload_n (q := 321) dL_law_320 rfl rfl ?_
  refine g_iload_n (q := 322) dL_law_321 rfl rfl ?_
  refine g_iconst (q := 323) dL_law_322 rfl ?_
  refine g_iadd (q := 324) dL_law_323 rfl ?_
  refine g_sld (q := 325) hi0 hiL (by omega) (by omega) dL_law_324 rfl ?_
  refine g_callV (q := 328) lL_26 mX12_fault nX12_fault rfl (tw_fault 0 sh _ S (sv_i xs (i + 1))) (S.at _ rfl) rfl rfl shLe.rf (rmL R (by decide)) (Nat.le_of_ble_eq_true rfl) dL_law_325 rfl rfl (kI fun r2 c2 hp => ?_)
  obtain ⟨a2, hc⟩ := hp
  have f2 : mF c1 c2 := by rw [hc]; exact mF.of0
  have e : r = r2 := by rw [a1, a2, J.2.1, J.2.2]
  refine g_icmp_eq (q := 331) (tg := 1490) dL_law_328 (by decide) rfl (fun c_328 => ?_) (fun c_328 => ?_)
  · exact kk sh c2 ⟨b, o, β, s, n, pl, q, N, hi, bi, si, sz, bt, vl, tn, (C.r (f2.L M.L) f2.rf').up (by omega) (by omega), M.k f2, J.k f2, R⟩
  · exact absurd (by rw [e]) c_328
end
