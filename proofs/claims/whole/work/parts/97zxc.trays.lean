/-! the law: full minutes, trays -/
section
variable {nm : String} {b0 L : Nat} {xs : Nat → Int32} {sh : mbSh} {ct : mbCt} {i : Int}
theorem L_full (hL : L ≤ 3072) (hi0 : 0 ≤ i) (hiL : i + 6 ≤ (L : Int)) (I : INV sh ct (4 * i)) (kk : ∀ sh2 ct2, INV sh2 ct2 (4 * (i + 6)) → G (KL nm b0 L xs) 1490 [some (.inr (.inr (-11))), some (.inr (.inr 0)), some (.inr (.inr 92)), some (.inl i)] [] sh2 ct2) : G (KL nm b0 L xs) 762 [some (.inr (.inr (-11))), some (.inr (.inr 0)), some (.inr (.inr 92)), some (.inl i)] [] sh ct := by
  obtain ⟨b, o, β, s, n, pl, q, N, hi, bi, si, sz, bt, vl, tn, C, M, J, R⟩ := I
  have S := R.1
  have hM6 : (β.n 2).toNat ≤ 6 := by have := C.1.1.2.2.1.2.2.2.2.1; omega
  refine g_aload_n (q := 763) dL_law_762 rfl rfl ?_
  refine g_aload_n (q := 764) dL_law_763 rfl rfl ?_
  refine g_iload_n (q := 765) dL_law_764 rfl rfl ?_
  refine g_iconst (q := 766) dL_law_765 rfl ?_
  refine g_iadd (q := 767) dL_law_766 rfl ?_
  refine g_sld (q := 768) hi0 hiL (by omega) (by omega) dL_law_767 rfl ?_
  by_cases htn : isTn (sv xs (i + 1))
  · have R2 := R.grow (M := (β.n 2).toNat) hM6
    have S2 := R2.1
    refine g_callV (q := 771) lL_94 mX11_full nX11_full rfl (x_full 0 sh _ S R.2.1 C.1.1 (by omega) (sv_i xs (i + 1)) (M := (β.n 2).toNat) rfl htn) (S.at _ rfl) rfl rfl shF_le (rmL R2 (by decide)) (Nat.le_of_ble_eq_true rfl) dL_law_768 rfl rfl (kI fun r c1 hp => ?_)
    obtain ⟨a1, X1, f1⟩ := hp
    obtain ⟨C1, e1, e2⟩ := C.k X1 f1
    have M1 := M.cl C1.L e1
    have J1 := J.cl e1 e2
    refine g_aload_n (q := 772) dL_law_771 rfl rfl ?_
    refine g_aload_n (q := 773) dL_law_772 rfl rfl ?_
    refine g_iload_n (q := 774) dL_law_773 rfl rfl ?_
    refine g_iconst (q := 775) dL_law_774 rfl ?_
    refine g_iadd (q := 776) dL_law_775 rfl ?_
    refine g_sld (q := 777) hi0 hiL (by omega) (by omega) dL_law_776 rfl ?_
    refine g_callV (q := 780) lL_97 mX12_full nX12_full rfl (tw_full 0 _ _ S2 M1.1.1.md (sv_i xs (i + 1))) (S2.at _ rfl) rfl rfl shLe.rf (rmL R2 (by decide)) (Nat.le_of_ble_eq_true rfl) dL_law_777 rfl rfl (kI fun r2 c2 hp => ?_)
    obtain ⟨a2, f2⟩ := hp
    have e : r = r2 := qFull.uni a1 a2
    refine g_icmp_eq (q := 783) (tg := 1490) dL_law_780 (by decide) rfl (fun c_780 => ?_) (fun c_780 => ?_)
    · exact kk _ c2 ⟨b, o, β, s, n, pl, _, _, hi, bi, si, sz, bt, vl, tn, (C1.r (f2.L M1.L) f2.rf').up (by omega) (by omega), M1.k f2, J1.k f2, R2⟩
    · exact absurd (by rw [e]) c_780
  · refine g_callV (q := 771) lL_94 mX11_full nX11_full rfl (x_fullN 0 sh _ S (β := β) (s := s) (sv_i xs (i + 1)) htn) (S.at _ rfl) rfl rfl shLe.rf (rmL R (by decide)) (Nat.le_of_ble_eq_true rfl) dL_law_768 rfl rfl (kI fun r c1 hp => ?_)
    obtain ⟨a1, hc⟩ := hp
    subst hc
    refine g_aload_n (q := 772) dL_law_771 rfl rfl ?_
    refine g_aload_n (q := 773) dL_law_772 rfl rfl ?_
    refine g_iload_n (q := 774) dL_law_773 rfl rfl ?_
    refine g_iconst (q := 775) dL_law_774 rfl ?_
    refine g_iadd (q := 776) dL_law_775 rfl ?_
    refine g_sld (q := 777) hi0 hiL (by omega) (by omega) dL_law_776 rfl ?_
    refine g_callV (q := 780) lL_97 mX12_full nX12_full rfl (tw_full 0 sh _ S M.1.1.md (sv_i xs (i + 1))) (S.at _ rfl) rfl rfl shLe.rf (rmL R (by decide)) (Nat.le_of_ble_eq_true rfl) dL_law_777 rfl rfl (kI fun r2 c2 hp => ?_)
    obtain ⟨a2, f2⟩ := hp
    have e : r = r2 := qFull.uni a1 a2
    refine g_icmp_eq (q := 783) (tg := 1490) dL_law_780 (by decide) rfl (fun c_780 => ?_) (fun c_780 => ?_)
    · exact kk sh c2 ⟨b, o, β, s, n, pl, q, N, hi, bi, si, sz, bt, vl, tn, (C.r (f2.L M.L) f2.rf').up (by omega) (by omega), M.k f2, J.k f2, R⟩
    · exact absurd (by rw [e]) c_780
theorem L_fullMinute (hL : L ≤ 3072) (hi0 : 0 ≤ i) (hiL : i + 6 ≤ (L : Int)) (I : INV sh ct (4 * i)) (kk : ∀ sh2 ct2, INV sh2 ct2 (4 * (i + 6)) → G (KL nm b0 L xs) 1490 [some (.inr (.inr (-11))), some (.inr (.inr 0)), some (.inr (.inr 92)), some (.inl i)] [] sh2 ct2) : G (KL nm b0 L xs) 785 [some (.inr (.inr (-11))), some (.inr (.inr 0)), some (.inr (.inr 92)), some (.inl i)] [] sh ct := by
  obtain ⟨b, o, β, s, n, pl, q, N, hi, bi, si, sz, bt, vl, tn, C, M, J, R⟩ := I
  have S := R.1
  have hM6 : (β.n 2).toNat ≤ 6 := by have := C.1.1.2.2.1.2.2.2.2.1; omega
  refine g_aload_n (q := 786) dL_law_785 rfl rfl ?_
  refine g_aload_n (q := 787) dL_law_786 rfl rfl ?_
  refine g_iload_n (q := 788) dL_law_787 rfl rfl ?_
  refine g_iconst (q := 789) dL_law_788 rfl ?_
  refine g_iadd (q := 790) dL_law_789 rfl ?_
  refine g_sld (q := 791) hi0 hiL (by omega) (by omega) dL_law_790 rfl ?_
  refine g_aload_n (q := 792) dL_law_791 rfl rfl ?_
  refine g_iload_n (q := 793) dL_law_792 rfl rfl ?_
  refine g_iconst (q := 794) dL_law_793 rfl ?_
  refine g_iadd (q := 795) dL_law_794 rfl ?_
  refine g_sld (q := 796) hi0 hiL (by omega) (by omega) dL_law_795 rfl ?_
  by_cases htn : isTn (sv xs (i + 1)) ∧ 0 ≤ sv xs (i + 2)
  · have R2 := R.grow (M := (β.n 2).toNat) hM6
    have S2 := R2.1
    refine g_callV (q := 799) lL_98 mX11_fullMinute nX11_fullMinute rfl (x_fullMinute 0 sh _ S R.2.1 C.1.1 (by omega) (sv_i xs (i + 1)) (sv_i xs (i + 2)) (M := (β.n 2).toNat) rfl htn.1 htn.2) (S.at _ rfl) rfl rfl shF_le (rmL R2 (by decide)) (Nat.le_of_ble_eq_true rfl) dL_law_796 rfl rfl (kI fun r c1 hp => ?_)
    obtain ⟨a1, X1, f1⟩ := hp
    obtain ⟨C1, e1, e2⟩ := C.k X1 f1
    have M1 := M.cl C1.L e1
    have J1 := J.cl e1 e2
    refine g_aload_n (q := 800) dL_law_799 rfl rfl ?_
    refine g_aload_n (q := 801) dL_law_800 rfl rfl ?_
    refine g_iload_n (q := 802) dL_law_801 rfl rfl ?_
    refine g_iconst (q := 803) dL_law_802 rfl ?_
    refine g_iadd (q := 804) dL_law_803 rfl ?_
    refine g_sld (q := 805) hi0 hiL (by omega) (by omega) dL_law_804 rfl ?_
    refine g_aload_n (q := 806) dL_law_805 rfl rfl ?_
    refine g_iload_n (q := 807) dL_law_806 rfl rfl ?_
    refine g_iconst (q := 808) dL_law_807 rfl ?_
    refine g_iadd (q := 809) dL_law_808 rfl ?_
    refine g_sld (q := 810) hi0 hiL (by omega) (by omega) dL_law_809 rfl ?_
    refine g_callV (q := 813) lL_101 mX12_fullMinute nX12_fullMinute rfl (tw_fullMinute 0 _ _ S2 M1.1.1.md (sv_i xs (i + 1)) (sv_i xs (i + 2))) (S2.at _ rfl) rfl rfl shLe.rf (rmL R2 (by decide)) (Nat.le_of_ble_eq_true rfl) dL_law_810 rfl rfl (kI fun r2 c2 hp => ?_)
    obtain ⟨a2, f2⟩ := hp
    have e : r = r2 := qMin.uni a1 a2
    refine g_icmp_eq (q := 816) (tg := 1490) dL_law_813 (by decide) rfl (fun c_813 => ?_) (fun c_813 => ?_)
    · exact kk _ c2 ⟨b, o, β, s, n, pl, _, _, hi, bi, si, sz, bt, vl, tn, (C1.r (f2.L M1.L) f2.rf').up (by omega) (by omega), M1.k f2, J1.k f2, R2⟩
    · exact absurd (by rw [e]) c_813
  · refine g_callV (q := 799) lL_98 mX11_fullMinute nX11_fullMinute rfl (x_fullMinuteN 0 sh _ S (β := β) (s := s) (M := (β.n 2).toNat) (sv_i xs (i + 1)) (sv_i xs (i + 2)) htn) (S.at _ rfl) rfl rfl shLe.rf (rmL R (by decide)) (Nat.le_of_ble_eq_true rfl) dL_law_796 rfl rfl (kI fun r c1 hp => ?_)
    obtain ⟨a1, hc⟩ := hp
    subst hc
    refine g_aload_n (q := 800) dL_law_799 rfl rfl ?_
    refine g_aload_n (q := 801) dL_law_800 rfl rfl ?_
    refine g_iload_n (q := 802) dL_law_801 rfl rfl ?_
    refine g_iconst (q := 803) dL_law_802 rfl ?_
    refine g_iadd (q := 804) dL_law_803 rfl ?_
    refine g_sld (q := 805) hi0 hiL (by omega) (by omega) dL_law_804 rfl ?_
    refine g_aload_n (q := 806) dL_law_805 rfl rfl ?_
    refine g_iload_n (q := 807) dL_law_806 rfl rfl ?_
    refine g_iconst (q := 808) dL_law_807 rfl ?_
    refine g_iadd (q := 809) dL_law_808 rfl ?_
    refine g_sld (q := 810) hi0 hiL (by omega) (by omega) dL_law_809 rfl ?_
    refine g_callV (q := 813) lL_101 mX12_fullMinute nX12_fullMinute rfl (tw_fullMinute 0 sh _ S M.1.1.md (sv_i xs (i + 1)) (sv_i xs (i + 2))) (S.at _ rfl) rfl rfl shLe.rf (rmL R (by decide)) (Nat.le_of_ble_eq_true rfl) dL_law_810 rfl rfl (kI fun r2 c2 hp => ?_)
    obtain ⟨a2, f2⟩ := hp
    have e : r = r2 := qMin.uni a1 a2
    refine g_icmp_eq (q := 816) (tg := 1490) dL_law_813 (by decide) rfl (fun c_813 => ?_) (fun c_813 => ?_)
    · exact kk sh c2 ⟨b, o, β, s, n, pl, q, N, hi, bi, si, sz, bt, vl, tn, (C.r (f2.L M.L) f2.rf').up (by omega) (by omega), M.k f2, J.k f2, R⟩
    · exact absurd (by rw [e]) c_813
theorem L_numbers (hL : L ≤ 3072) (hi0 : 0 ≤ i) (hiL : i + 6 ≤ (L : Int)) (I : INV sh ct (4 * i)) (kk : ∀ sh2 ct2, INV sh2 ct2 (4 * (i + 6)) → G (KL nm b0 L xs) 1490 [some (.inr (.inr (-11))), some (.inr (.inr 0)), some (.inr (.inr 92)), some (.inl i)] [] sh2 ct2) : G (KL nm b0 L xs) 1271 [some (.inr (.inr (-11))), some (.inr (.inr 0)), some (.inr (.inr 92)), some (.inl i)] [] sh ct := by
  obtain ⟨b, o, β, s, n, pl, q, N, hi, bi, si, sz, bt, vl, tn, C, M, J, R⟩ := I
  have S := R.1
  refine g_aload_n (q := 1272) dL_law_1271 rfl rfl ?_
  refine g_aload_n (q := 1273) dL_law_1272 rfl rfl ?_
  refine g_iload_n (q := 1274) dL_law_1273 rfl rfl ?_
  refine g_iconst (q := 1275) dL_law_1274 rfl ?_
  refine g_iadd (q := 1276) dL_law_1275 rfl ?_
  refine g_sld (q := 1277) hi0 hiL (by omega) (by omega) dL_law_1276 rfl ?_
  refine g_aload_n (q := 1278) dL_law_1277 rfl rfl ?_
  refine g_iload_n (q := 1279) dL_law_1278 rfl rfl ?_
  refine g_iconst (q := 1280) dL_law_1279 rfl ?_
  refine g_iadd (q := 1281) dL_law_1280 rfl ?_
  refine g_sld (q := 1282) hi0 hiL (by omega) (by omega) dL_law_1281 rfl ?_
  refine g_aload_n (q := 1283) dL_law_1282 rfl rfl ?_
  refine g_iload_n (q := 1284) dL_law_1283 rfl rfl ?_
  refine g_iconst (q := 1285) dL_law_1284 rfl ?_
  refine g_iadd (q := 1286) dL_law_1285 rfl ?_
  refine g_sld (q := 1287) hi0 hiL (by omega) (by omega) dL_law_1286 rfl ?_
  refine g_callV (q := 1290) lL_172 mX11_numbers nX11_numbers rfl (x_numbers 0 sh _ S C.L C.2.1 (sv_i xs (i + 1)) (sv_i xs (i + 2)) (sv_i xs (i + 3))) (S.at _ rfl) rfl rfl shLe.rf (rmL R (by decide)) (Nat.le_of_ble_eq_true rfl) dL_law_1287 rfl rfl (kI fun r c1 hp => ?_)
  obtain ⟨hp, L1, f1⟩ := hp
  have go : ∀ sz2 bt2 vl2, TC c1 sz2 bt2 vl2 → (∀ r2 c2, ((¬ (isTr (sv xs (i + 1)) ∧ 0 ≤ (sv xs (i + 2)) ∧ (sv xs (i + 2)) ≤ 3) ∧ r2 = -2 ∧ MT c2 sz bt vl) ∨ ((isTr (sv xs (i + 1)) ∧ 0 ≤ (sv xs (i + 2)) ∧ (sv xs (i + 2)) ≤ 3) ∧ ¬ (0 ≤ (sv xs (i + 3)) ∧ (sv xs (i + 3)) ≤ 40) ∧ r2 = -3 ∧ MT c2 sz bt vl) ∨ ((isTr (sv xs (i + 1)) ∧ 0 ≤ (sv xs (i + 2)) ∧ (sv xs (i + 2)) ≤ 3) ∧ (0 ≤ (sv xs (i + 3)) ∧ (sv xs (i + 3)) ≤ 40) ∧ r2 = 0 ∧ MT c2 (up1 sz (sv xs (i + 1)) (sv xs (i + 3))) (up1 bt (sv xs (i + 1)) (8 * 2 ^ (sv xs (i + 2)).toNat)) (upR vl (sv xs (i + 1)) (fun _ => 0)))) ∧ rF c1 c2 → r = r2 ∧ MT c2 sz2 bt2 vl2 ∧ rF c1 c2) → G (KL nm b0 L xs) 1290 [some (.inr (.inr (-11))), some (.inr (.inr 0)), some (.inr (.inr 92)), some (.inl i)] [.inl r] sh c1 := by
    intro sz2 bt2 vl2 T1 hh
    obtain ⟨D1, e1, e2⟩ := C.t L1 f1 T1
    have M1 := M.cl L1 e1
    have J1 := J.cl e1 e2
    refine g_aload_n (q := 1291) dL_law_1290 rfl rfl ?_
    refine g_aload_n (q := 1292) dL_law_1291 rfl rfl ?_
    refine g_iload_n (q := 1293) dL_law_1292 rfl rfl ?_
    refine g_iconst (q := 1294) dL_law_1293 rfl ?_
    refine g_iadd (q := 1295) dL_law_1294 rfl ?_
    refine g_sld (q := 1296) hi0 hiL (by omega) (by omega) dL_law_1295 rfl ?_
    refine g_aload_n (q := 1297) dL_law_1296 rfl rfl ?_
    refine g_iload_n (q := 1298) dL_law_1297 rfl rfl ?_
    refine g_iconst (q := 1299) dL_law_1298 rfl ?_
    refine g_iadd (q := 1300) dL_law_1299 rfl ?_
    refine g_sld (q := 1301) hi0 hiL (by omega) (by omega) dL_law_1300 rfl ?_
    refine g_aload_n (q := 1302) dL_law_1301 rfl rfl ?_
    refine g_iload_n (q := 1303) dL_law_1302 rfl rfl ?_
    refine g_iconst (q := 1304) dL_law_1303 rfl ?_
    refine g_iadd (q := 1305) dL_law_1304 rfl ?_
    refine g_sld (q := 1306) hi0 hiL (by omega) (by omega) dL_law_1305 rfl ?_
    refine g_callV (q := 1309) lL_175 mX12_numbers nX12_numbers rfl (tw_numbers 0 sh _ S L1 M1.2.1 (sv_i xs (i + 1)) (sv_i xs (i + 2)) (sv_i xs (i + 3))) (S.at _ rfl) rfl rfl shLe.rf (rmL R (by decide)) (Nat.le_of_ble_eq_true rfl) dL_law_1306 rfl rfl (kI fun r2 c2 hp => ?_)
    obtain ⟨e, T2, f2⟩ := hh r2 c2 hp
    have M2 := M1.t T2 f2
    refine g_icmp_eq (q := 1312) (tg := 1490) dL_law_1309 (by decide) rfl (fun c_1309 => ?_) (fun c_1309 => ?_)
    · exact kk sh c2 ⟨b, o, β, s, n, pl, q, N, hi, bi, si, sz2, bt2, vl2, tn, (D1.r M2.L f2.rf').up (by omega) (by omega), M2, J1.t f2, R⟩
    · exact absurd (by rw [e]) c_1309
  rcases hp with ⟨a, er, C1⟩ | ⟨a, az, er, C1⟩ | ⟨a, az, er, C1⟩
  · refine go _ _ _ C1 (fun r2 c2 hp => ?_)
    obtain ⟨hp, f2⟩ := hp
    rcases hp with ⟨a2, er2, M2⟩ | ⟨a2, az2, er2, M2⟩ | ⟨a2, az2, er2, M2⟩
    · first | exact ⟨by omega, by assumption, f2⟩ | (exfalso; first | contradiction | omega)
    · first | exact ⟨by omega, by assumption, f2⟩ | (exfalso; first | contradiction | omega)
    · first | exact ⟨by omega, by assumption, f2⟩ | (exfalso; first | contradiction | omega)
  · refine go _ _ _ C1 (fun r2 c2 hp => ?_)
    obtain ⟨hp, f2⟩ := hp
    rcases hp with ⟨a2, er2, M2⟩ | ⟨a2, az2, er2, M2⟩ | ⟨a2, az2, er2, M2⟩
    · first | exact ⟨by omega, by assumption, f2⟩ | (exfalso; first | contradiction | omega)
    · first | exact ⟨by omega, by assumption, f2⟩ | (exfalso; first | contradiction | omega)
    · first | exact ⟨by omega, by assumption, f2⟩ | (exfalso; first | contradiction | omega)
  · refine go _ _ _ C1 (fun r2 c2 hp => ?_)
    obtain ⟨hp, f2⟩ := hp
    rcases hp with ⟨a2, er2, M2⟩ | ⟨a2, az2, er2, M2⟩ | ⟨a2, az2, er2, M2⟩
    · first | exact ⟨by omega, by assumption, f2⟩ | (exfalso; first | contradiction | omega)
    · first | exact ⟨by omega, by assumption, f2⟩ | (exfalso; first | contradiction | omega)
    · first | exact ⟨by omega, by assumption, f2⟩ | (exfalso; first | contradiction | omega)
theorem L_write (hL : L ≤ 3072) (hi0 : 0 ≤ i) (hiL : i + 6 ≤ (L : Int)) (I : INV sh ct (4 * i)) (kk : ∀ sh2 ct2, INV sh2 ct2 (4 * (i + 6)) → G (KL nm b0 L xs) 1490 [some (.inr (.inr (-11))), some (.inr (.inr 0)), some (.inr (.inr 92)), some (.inl i)] [] sh2 ct2) : G (KL nm b0 L xs) 1314 [some (.inr (.inr (-11))), some (.inr (.inr 0)), some (.inr (.inr 92)), some (.inl i)] [] sh ct := by
  obtain ⟨b, o, β, s, n, pl, q, N, hi, bi, si, sz, bt, vl, tn, C, M, J, R⟩ := I
  have S := R.1
  refine g_aload_n (q := 1315) dL_law_1314 rfl rfl ?_
  refine g_aload_n (q := 1316) dL_law_1315 rfl rfl ?_
  refine g_iload_n (q := 1317) dL_law_1316 rfl rfl ?_
  refine g_iconst (q := 1318) dL_law_1317 rfl ?_
  refine g_iadd (q := 1319) dL_law_1318 rfl ?_
  refine g_sld (q := 1320) hi0 hiL (by omega) (by omega) dL_law_1319 rfl ?_
  refine g_aload_n (q := 1321) dL_law_1320 rfl rfl ?_
  refine g_iload_n (q := 1322) dL_law_1321 rfl rfl ?_
  refine g_iconst (q := 1323) dL_law_1322 rfl ?_
  refine g_iadd (q := 1324) dL_law_1323 rfl ?_
  refine g_sld (q := 1325) hi0 hiL (by omega) (by omega) dL_law_1324 rfl ?_
  refine g_aload_n (q := 1326) dL_law_1325 rfl rfl ?_
  refine g_iload_n (q := 1327) dL_law_1326 rfl rfl ?_
  refine g_iconst (q := 1328) dL_law_1327 rfl ?_
  refine g_iadd (q := 1329) dL_law_1328 rfl ?_
  refine g_sld (q := 1330) hi0 hiL (by omega) (by omega) dL_law_1329 rfl ?_
  refine g_i2l (q := 1331) dL_law_1330 rfl ?_
  refine g_bipush (q := 1333) dL_law_1331 (by decide +kernel) rfl ?_
  refine g_lshl (q := 1334) dL_law_1333 rfl ?_
  refine g_aload_n (q := 1335) dL_law_1334 rfl rfl ?_
  refine g_iload_n (q := 1336) dL_law_1335 rfl rfl ?_
  refine g_iconst (q := 1337) dL_law_1336 rfl ?_
  refine g_iadd (q := 1338) dL_law_1337 rfl ?_
  refine g_sld (q := 1339) hi0 hiL (by omega) (by omega) dL_law_1338 rfl ?_
  refine g_i2l (q := 1340) dL_law_1339 rfl ?_
  refine g_ldc2 (q := 1343) dL_law_1340 kL_176 rfl ?_
  refine g_land (q := 1344) dL_law_1343 rfl ?_
  refine g_lor (q := 1345) dL_law_1344 rfl ?_
  refine g_callV (q := 1348) lL_178 mX11_write nX11_write rfl (x_write 0 sh _ S C.1.1 C.2.1 (sv_i xs (i + 1)) (sv_i xs (i + 2))) (S.at _ rfl) rfl rfl shLe.rf (rmL R (by decide)) (Nat.le_of_ble_eq_true rfl) dL_law_1345 rfl rfl (kL fun r c1 hp => ?_)
  obtain ⟨hp, L1, f1⟩ := hp
  have go : ∀ sz2 bt2 vl2, TC c1 sz2 bt2 vl2 → (∀ r2 c2, ((¬ isTr (sv xs (i + 1)) ∧ r2 = -2 ∧ MT c2 sz bt vl) ∨ (isTr (sv xs (i + 1)) ∧ sz (sv xs (i + 1)) = -1 ∧ r2 = -6 ∧ MT c2 sz bt vl) ∨ (isTr (sv xs (i + 1)) ∧ sz (sv xs (i + 1)) ≠ -1 ∧ ¬ (0 ≤ (sv xs (i + 2)) ∧ (sv xs (i + 2)) < sz (sv xs (i + 1))) ∧ r2 = -7 ∧ MT c2 sz bt vl) ∨ (isTr (sv xs (i + 1)) ∧ sz (sv xs (i + 1)) ≠ -1 ∧ (0 ≤ (sv xs (i + 2)) ∧ (sv xs (i + 2)) < sz (sv xs (i + 1))) ∧ r2 = cutL (bt (sv xs (i + 1))) (orL (shlL (w32 (sv xs (i + 3))) 32) (andL (w32 (sv xs (i + 4))) 4294967295)) ∧ MT c2 sz bt (upR vl (sv xs (i + 1)) (up1 (vl (sv xs (i + 1))) (sv xs (i + 2)) (cutL (bt (sv xs (i + 1))) (orL (shlL (w32 (sv xs (i + 3))) 32) (andL (w32 (sv xs (i + 4))) 4294967295))))))) ∧ rF c1 c2 → r = r2 ∧ MT c2 sz2 bt2 vl2 ∧ rF c1 c2) → G (KL nm b0 L xs) 1348 [some (.inr (.inr (-11))), some (.inr (.inr 0)), some (.inr (.inr 92)), some (.inl i)] [.inr (.inl r)] sh c1 := by
    intro sz2 bt2 vl2 T1 hh
    obtain ⟨D1, e1, e2⟩ := C.t L1 f1 T1
    have M1 := M.cl L1 e1
    have J1 := J.cl e1 e2
    refine g_aload_n (q := 1349) dL_law_1348 rfl rfl ?_
    refine g_aload_n (q := 1350) dL_law_1349 rfl rfl ?_
    refine g_iload_n (q := 1351) dL_law_1350 rfl rfl ?_
    refine g_iconst (q := 1352) dL_law_1351 rfl ?_
    refine g_iadd (q := 1353) dL_law_1352 rfl ?_
    refine g_sld (q := 1354) hi0 hiL (by omega) (by omega) dL_law_1353 rfl ?_
    refine g_aload_n (q := 1355) dL_law_1354 rfl rfl ?_
    refine g_iload_n (q := 1356) dL_law_1355 rfl rfl ?_
    refine g_iconst (q := 1357) dL_law_1356 rfl ?_
    refine g_iadd (q := 1358) dL_law_1357 rfl ?_
    refine g_sld (q := 1359) hi0 hiL (by omega) (by omega) dL_law_1358 rfl ?_
    refine g_aload_n (q := 1360) dL_law_1359 rfl rfl ?_
    refine g_iload_n (q := 1361) dL_law_1360 rfl rfl ?_
    refine g_iconst (q := 1362) dL_law_1361 rfl ?_
    refine g_iadd (q := 1363) dL_law_1362 rfl ?_
    refine g_sld (q := 1364) hi0 hiL (by omega) (by omega) dL_law_1363 rfl ?_
    refine g_i2l (q := 1365) dL_law_1364 rfl ?_
    refine g_bipush (q := 1367) dL_law_1365 (by decide +kernel) rfl ?_
    refine g_lshl (q := 1368) dL_law_1367 rfl ?_
    refine g_aload_n (q := 1369) dL_law_1368 rfl rfl ?_
    refine g_iload_n (q := 1370) dL_law_1369 rfl rfl ?_
    refine g_iconst (q := 1371) dL_law_1370 rfl ?_
    refine g_iadd (q := 1372) dL_law_1371 rfl ?_
    refine g_sld (q := 1373) hi0 hiL (by omega) (by omega) dL_law_1372 rfl ?_
    refine g_i2l (q := 1374) dL_law_1373 rfl ?_
    refine g_ldc2 (q := 1377) dL_law_1374 kL_176 rfl ?_
    refine g_land (q := 1378) dL_law_1377 rfl ?_
    refine g_lor (q := 1379) dL_law_1378 rfl ?_
    refine g_callV (q := 1382) lL_182 mX12_write nX12_write rfl (tw_write 0 sh _ S L1 M1.2.1 (sv_i xs (i + 1)) (sv_i xs (i + 2))) (S.at _ rfl) rfl rfl shLe.rf (rmL R (by decide)) (Nat.le_of_ble_eq_true rfl) dL_law_1379 rfl rfl (kL fun r2 c2 hp => ?_)
    obtain ⟨e, T2, f2⟩ := hh r2 c2 hp
    have M2 := M1.t T2 f2
    refine g_lcmp (q := 1383) dL_law_1382 rfl ?_
    refine g_if_eq (q := 1386) (tg := 1490) dL_law_1383 (by decide) rfl (fun c_1383 => ?_) (fun c_1383 => ?_)
    · exact kk sh c2 ⟨b, o, β, s, n, pl, q, N, hi, bi, si, sz2, bt2, vl2, tn, (D1.r M2.L f2.rf').up (by omega) (by omega), M2, J1.t f2, R⟩
    · exact absurd (cmp_eq.mpr (by rw [e])) c_1383
  rcases hp with ⟨a, er, C1⟩ | ⟨a, az, er, C1⟩ | ⟨a, az, ai, er, C1⟩ | ⟨a, az, ai, er, C1⟩
  · refine go _ _ _ C1 (fun r2 c2 hp => ?_)
    obtain ⟨hp, f2⟩ := hp
    rcases hp with ⟨a2, er2, M2⟩ | ⟨a2, az2, er2, M2⟩ | ⟨a2, az2, ai2, er2, M2⟩ | ⟨a2, az2, ai2, er2, M2⟩
    · first | exact ⟨by omega, by assumption, f2⟩ | (exfalso; first | contradiction | omega)
    · first | exact ⟨by omega, by assumption, f2⟩ | (exfalso; first | contradiction | omega)
    · first | exact ⟨by omega, by assumption, f2⟩ | (exfalso; first | contradiction | omega)
    · first | exact ⟨by omega, by assumption, f2⟩ | (exfalso; first | contradiction | omega)
  · refine go _ _ _ C1 (fun r2 c2 hp => ?_)
    obtain ⟨hp, f2⟩ := hp
    rcases hp with ⟨a2, er2, M2⟩ | ⟨a2, az2, er2, M2⟩ | ⟨a2, az2, ai2, er2, M2⟩ | ⟨a2, az2, ai2, er2, M2⟩
    · first | exact ⟨by omega, by assumption, f2⟩ | (exfalso; first | contradiction | omega)
    · first | exact ⟨by omega, by assumption, f2⟩ | (exfalso; first | contradiction | omega)
    · first | exact ⟨by omega, by assumption, f2⟩ | (exfalso; first | contradiction | omega)
    · first | exact ⟨by omega, by assumption, f2⟩ | (exfalso; first | contradiction | omega)
  · refine go _ _ _ C1 (fun r2 c2 hp => ?_)
    obtain ⟨hp, f2⟩ := hp
    rcases hp with ⟨a2, er2, M2⟩ | ⟨a2, az2, er2, M2⟩ | ⟨a2, az2, ai2, er2, M2⟩ | ⟨a2, az2, ai2, er2, M2⟩
    · first | exact ⟨by omega, by assumption, f2⟩ | (exfalso; first | contradiction | omega)
    · first | exact ⟨by omega, by assumption, f2⟩ | (exfalso; first | contradiction | omega)
    · first | exact ⟨by omega, by assumption, f2⟩ | (exfalso; first | contradiction | omega)
    · first | exact ⟨by omega, by assumption, f2⟩ | (exfalso; first | contradiction | omega)
  · refine go _ _ _ C1 (fun r2 c2 hp => ?_)
    obtain ⟨hp, f2⟩ := hp
    rcases hp with ⟨a2, er2, M2⟩ | ⟨a2, az2, er2, M2⟩ | ⟨a2, az2, ai2, er2, M2⟩ | ⟨a2, az2, ai2, er2, M2⟩
    · first | exact ⟨by omega, by assumption, f2⟩ | (exfalso; first | contradiction | omega)
    · first | exact ⟨by omega, by assumption, f2⟩ | (exfalso; first | contradiction | omega)
    · first | exact ⟨by omega, by assumption, f2⟩ | (exfalso; first | contradiction | omega)
    · first | exact ⟨by omega, by assumption, f2⟩ | (exfalso; first | contradiction | omega)
theorem L_lists (hL : L ≤ 3072) (hi0 : 0 ≤ i) (hiL : i + 6 ≤ (L : Int)) (I : INV sh ct (4 * i)) (kk : ∀ sh2 ct2, INV sh2 ct2 (4 * (i + 6)) → G (KL nm b0 L xs) 1490 [some (.inr (.inr (-11))), some (.inr (.inr 0)), some (.inr (.inr 92)), some (.inl i)] [] sh2 ct2) : G (KL nm b0 L xs) 1388 [some (.inr (.inr (-11))), some (.inr (.inr 0)), some (.inr (.inr 92)), some (.inl i)] [] sh ct := by
  obtain ⟨b, o, β, s, n, pl, q, N, hi, bi, si, sz, bt, vl, tn, C, M, J, R⟩ := I
  have S := R.1
  refine g_aload_n (q := 1389) dL_law_1388 rfl rfl ?_
  refine g_aload_n (q := 1390) dL_law_1389 rfl rfl ?_
  refine g_iload_n (q := 1391) dL_law_1390 rfl rfl ?_
  refine g_iconst (q := 1392) dL_law_1391 rfl ?_
  refine g_iadd (q := 1393) dL_law_1392 rfl ?_
  refine g_sld (q := 1394) hi0 hiL (by omega) (by omega) dL_law_1393 rfl ?_
  refine g_aload_n (q := 1395) dL_law_1394 rfl rfl ?_
  refine g_iload_n (q := 1396) dL_law_1395 rfl rfl ?_
  refine g_iconst (q := 1397) dL_law_1396 rfl ?_
  refine g_iadd (q := 1398) dL_law_1397 rfl ?_
  refine g_sld (q := 1399) hi0 hiL (by omega) (by omega) dL_law_1398 rfl ?_
  refine g_callV (q := 1402) lL_183 mX11_lists nX11_lists rfl (x_lists 0 sh _ S C.1.1 (by omega) C.2.1 (fun h1 h2 => M.2.1.bts h1 h2) (sv_i xs (i + 1)) (sv_i xs (i + 2))) (S.at _ rfl) rfl rfl shLe.rf (rmL R (by decide)) (Nat.le_of_ble_eq_true rfl) dL_law_1399 rfl rfl (kI fun r c1 hp => ?_)
  obtain ⟨hp, X1, f1⟩ := hp
  have go : ∀ sz2 bt2 vl2, TC c1 sz2 bt2 vl2 → (∀ r2 c2, ((¬ isTr (sv xs (i + 1)) ∧ r2 = -2 ∧ MT c2 sz bt vl) ∨ (isTr (sv xs (i + 1)) ∧ sz (sv xs (i + 1)) = -1 ∧ r2 = -6 ∧ MT c2 sz bt vl) ∨ (isTr (sv xs (i + 1)) ∧ sz (sv xs (i + 1)) ≠ -1 ∧ ¬ isTn (sv xs (i + 2)) ∧ r2 = -3 ∧ MT c2 sz bt vl) ∨ (isTr (sv xs (i + 1)) ∧ sz (sv xs (i + 1)) ≠ -1 ∧ isTn (sv xs (i + 2)) ∧ ∃ m, wyS β s.2.2 s.1 (-1) (-1) 9 (sv xs (i + 2)) 0 m ∧ ((m = -1 ∧ r2 = -5 ∧ MT c2 sz bt vl) ∨ (m ≠ -1 ∧ r2 = (if m < sz (sv xs (i + 1)) then m else sz (sv xs (i + 1))) ∧ ∀ f : Int → Int, (∀ k, 0 ≤ k → k < r2 → miS β s.2.2 s.1 (-1) (-1) 9 (sv xs (i + 2)) 0 k (f k)) → MT c2 sz bt (upR vl (sv xs (i + 1)) (fun j => if j < r2 then f j else vl (sv xs (i + 1)) j)))))) ∧ rF c1 c2 → r = r2 ∧ MT c2 sz2 bt2 vl2 ∧ rF c1 c2) → G (KL nm b0 L xs) 1402 [some (.inr (.inr (-11))), some (.inr (.inr 0)), some (.inr (.inr 92)), some (.inl i)] [.inl r] sh c1 := by
    intro sz2 bt2 vl2 T1 hh
    obtain ⟨D1, e1, e2⟩ := C.ls X1 f1 T1
    have M1 := M.cl D1.L e1
    have J1 := J.cl e1 e2
    refine g_aload_n (q := 1403) dL_law_1402 rfl rfl ?_
    refine g_aload_n (q := 1404) dL_law_1403 rfl rfl ?_
    refine g_iload_n (q := 1405) dL_law_1404 rfl rfl ?_
    refine g_iconst (q := 1406) dL_law_1405 rfl ?_
    refine g_iadd (q := 1407) dL_law_1406 rfl ?_
    refine g_sld (q := 1408) hi0 hiL (by omega) (by omega) dL_law_1407 rfl ?_
    refine g_aload_n (q := 1409) dL_law_1408 rfl rfl ?_
    refine g_iload_n (q := 1410) dL_law_1409 rfl rfl ?_
    refine g_iconst (q := 1411) dL_law_1410 rfl ?_
    refine g_iadd (q := 1412) dL_law_1411 rfl ?_
    refine g_sld (q := 1413) hi0 hiL (by omega) (by omega) dL_law_1412 rfl ?_
    refine g_callV (q := 1416) lL_186 mX12_lists nX12_lists rfl (tw_lists 0 sh _ S M1.1.1 M1.2.1 (sv_i xs (i + 1)) (sv_i xs (i + 2))) (S.at _ rfl) rfl rfl shLe.rf (rmL R (by decide)) (Nat.le_of_ble_eq_true rfl) dL_law_1413 rfl rfl (kI fun r2 c2 hp => ?_)
    obtain ⟨e, T2, f2⟩ := hh r2 c2 hp
    have M2 := M1.t T2 f2
    refine g_icmp_eq (q := 1419) (tg := 1490) dL_law_1416 (by decide) rfl (fun c_1416 => ?_) (fun c_1416 => ?_)
    · exact kk sh c2 ⟨b, o, β, s, n, pl, q, N, hi, bi, si, sz2, bt2, vl2, tn, (D1.r M2.L f2.rf').up (by omega) (by omega), M2, J1.t f2, R⟩
    · exact absurd (by rw [e]) c_1416
  rcases hp with ⟨a, er, C1⟩ | ⟨a, az, er, C1⟩ | ⟨a, az, ai, er, C1⟩ | ⟨a, az, ai, m, hm, ⟨am, er, C1⟩ | ⟨am, er, f, hf, C1⟩⟩
  · refine go _ _ _ C1 (fun r2 c2 hp => ?_)
    obtain ⟨hp, f2⟩ := hp
    rcases hp with ⟨a2, er2, M2⟩ | ⟨a2, az2, er2, M2⟩ | ⟨a2, az2, ai2, er2, M2⟩ | ⟨a2, az2, ai2, m2, hm2, ⟨am2, er2, M2⟩ | ⟨am2, er2, M2⟩⟩
    · first | exact ⟨by omega, by assumption, f2⟩ | (exfalso; first | contradiction | omega)
    · first | exact ⟨by omega, by assumption, f2⟩ | (exfalso; first | contradiction | omega)
    · first | exact ⟨by omega, by assumption, f2⟩ | (exfalso; first | contradiction | omega)
    · first | exact ⟨by omega, by assumption, f2⟩ | (exfalso; first | contradiction | omega)
    · first | exact ⟨by omega, by assumption, f2⟩ | (exfalso; first | contradiction | omega)
  · refine go _ _ _ C1 (fun r2 c2 hp => ?_)
    obtain ⟨hp, f2⟩ := hp
    rcases hp with ⟨a2, er2, M2⟩ | ⟨a2, az2, er2, M2⟩ | ⟨a2, az2, ai2, er2, M2⟩ | ⟨a2, az2, ai2, m2, hm2, ⟨am2, er2, M2⟩ | ⟨am2, er2, M2⟩⟩
    · first | exact ⟨by omega, by assumption, f2⟩ | (exfalso; first | contradiction | omega)
    · first | exact ⟨by omega, by assumption, f2⟩ | (exfalso; first | contradiction | omega)
    · first | exact ⟨by omega, by assumption, f2⟩ | (exfalso; first | contradiction | omega)
    · first | exact ⟨by omega, by assumption, f2⟩ | (exfalso; first | contradiction | omega)
    · first | exact ⟨by omega, by assumption, f2⟩ | (exfalso; first | contradiction | omega)
  · refine go _ _ _ C1 (fun r2 c2 hp => ?_)
    obtain ⟨hp, f2⟩ := hp
    rcases hp with ⟨a2, er2, M2⟩ | ⟨a2, az2, er2, M2⟩ | ⟨a2, az2, ai2, er2, M2⟩ | ⟨a2, az2, ai2, m2, hm2, ⟨am2, er2, M2⟩ | ⟨am2, er2, M2⟩⟩
    · first | exact ⟨by omega, by assumption, f2⟩ | (exfalso; first | contradiction | omega)
    · first | exact ⟨by omega, by assumption, f2⟩ | (exfalso; first | contradiction | omega)
    · first | exact ⟨by omega, by assumption, f2⟩ | (exfalso; first | contradiction | omega)
    · first | exact ⟨by omega, by assumption, f2⟩ | (exfalso; first | contradiction | omega)
    · first | exact ⟨by omega, by assumption, f2⟩ | (exfalso; first | contradiction | omega)
  · refine go _ _ _ C1 (fun r2 c2 hp => ?_)
    obtain ⟨hp, f2⟩ := hp
    rcases hp with ⟨a2, er2, M2⟩ | ⟨a2, az2, er2, M2⟩ | ⟨a2, az2, ai2, er2, M2⟩ | ⟨a2, az2, ai2, m2, hm2, ⟨am2, er2, M2⟩ | ⟨am2, er2, M2⟩⟩
    · first | exact ⟨by omega, by assumption, f2⟩ | (exfalso; first | contradiction | omega)
    · first | exact ⟨by omega, by assumption, f2⟩ | (exfalso; first | contradiction | omega)
    · first | exact ⟨by omega, by assumption, f2⟩ | (exfalso; first | contradiction | omega)
    · first | exact ⟨by omega, by assumption, f2⟩ | (exfalso; first | contradiction | omega)
    · exact absurd (hm.uni hm2 ▸ am) am2
  · refine go _ _ _ C1 (fun r2 c2 hp => ?_)
    obtain ⟨hp, f2⟩ := hp
    rcases hp with ⟨a2, er2, M2⟩ | ⟨a2, az2, er2, M2⟩ | ⟨a2, az2, ai2, er2, M2⟩ | ⟨a2, az2, ai2, m2, hm2, ⟨am2, er2, M2⟩ | ⟨am2, er2, M2⟩⟩
    · first | exact ⟨by omega, by assumption, f2⟩ | (exfalso; first | contradiction | omega)
    · first | exact ⟨by omega, by assumption, f2⟩ | (exfalso; first | contradiction | omega)
    · first | exact ⟨by omega, by assumption, f2⟩ | (exfalso; first | contradiction | omega)
    · exact absurd (hm.uni hm2 ▸ am2) am
    · have em := hm.uni hm2
      subst em
      have er3 : r = r2 := er.trans er2.symm
      subst er3
      exact ⟨rfl, M2 f hf, f2⟩
end
