/-! texts: where a sign stands -/
section
variable (d : Nat) (sh : mbSh) (ct : mbCt) {i : Nat} {x : Int}
theorem j_canEncode (h0 : 0 ≤ x) (h1 : x < 128) : Mt YJ1_canEncode_9a6ad d [.inl x] sh sh ct (pI fun r c => r = 1 ∧ c = ct) := by
  have wx : w32 x = x := w32_id (by omega) (by omega)
  refine Mt.ofF (by decide +kernel) (Nat.le_of_ble_eq_true rfl) ?_
  show G _ 0 [some (.inl x)] [] sh ct
  refine g_iload_n (q := 1) dJ1_canEncode_9a6ad_0 rfl rfl ?_
  refine g_if_lt (q := 4) (tg := 15) dJ1_canEncode_9a6ad_1 (by decide) rfl (fun c_1 => ?_) (fun c_1 => ?_)
  · rw [wx] at c_1
    exact absurd c_1 (by omega)
  · refine g_iload_n (q := 5) dJ1_canEncode_9a6ad_4 rfl rfl ?_
    refine g_sipush (q := 8) dJ1_canEncode_9a6ad_5 (by decide +kernel) rfl ?_
    refine g_icmp_gt (q := 11) (tg := 15) dJ1_canEncode_9a6ad_8 (by decide) rfl (fun c_8 => ?_) (fun c_8 => ?_)
    · rw [wx, show w32 255 = 255 from rfl] at c_8
      exact absurd c_8 (by omega)
    · refine g_iconst (q := 12) dJ1_canEncode_9a6ad_11 rfl ?_
      refine g_goto (q := 16) dJ1_canEncode_9a6ad_12 (by decide) ?_
      refine g_zreturn dJ1_canEncode_9a6ad_16 rfl (by decide +kernel) ?_
      exact ⟨_, rfl, rfl, rfl⟩
def hasS (i : Nat) (x : Int) : Prop := ∃ j, j < strN i ∧ strB i j = x
theorem j_indexOfChar (hi : i < 3) (h0 : 0 ≤ x) (h1 : x < 128) : Mt YJ1_indexOfChar_4cfef d [.inr (.inr (-12 - (i : Int))), .inl x, .inl 0, .inl (strN i : Nat)] sh sh ct (pI fun r c => (0 ≤ r ↔ hasS i x) ∧ (-1 ≤ r ∧ r ≤ 93) ∧ c = ct) := by
  have hN := strN_in i
  have w8x : w8 x = x := by unfold w8; omega
  refine Mt.ofF (by decide +kernel) (Nat.le_of_ble_eq_true rfl) ?_
  show G _ 0 [some (.inr (.inr (-12 - (i : Int)))), some (.inl x), some (.inl 0), some (.inl (strN i : Nat)), none, none] [] sh ct
  refine g_iload_n (q := 1) dJ1_indexOfChar_4cfef_0 rfl rfl ?_
  refine g_i2b (q := 2) dJ1_indexOfChar_4cfef_1 rfl ?_
  rw [w8x]
  refine s_istore_6_4 (q := 4) dJ1_indexOfChar_4cfef_2 rfl rfl rfl ?_
  refine g_iload_n (q := 5) dJ1_indexOfChar_4cfef_4 rfl rfl ?_
  refine s_istore_6_5 (q := 7) dJ1_indexOfChar_4cfef_5 rfl rfl rfl ?_
  refine g_for (fun k => [some (.inr (.inr (-12 - (i : Int)))), some (.inl x), some (.inl 0), some (.inl (strN i : Nat)), some (.inl x), some (.inl k)]) (fun k c => 0 ≤ k ∧ c = ct ∧ ∀ j : Nat, (j : Int) < k → strB i j ≠ x) (strN i : Nat) ?_ ?_ (i := 0) (by omega) ⟨by omega, rfl, fun j hj => by omega⟩ (by simp [lsSub])
  · rintro k c hk ⟨k0, rfl, hno⟩ kk
    have hb := strB_in (i := i) (j := k.toNat) hi (by omega)
    refine g_iload (q := 9) dJ1_indexOfChar_4cfef_7 rfl rfl ?_
    refine g_iload_n (q := 10) dJ1_indexOfChar_4cfef_9 rfl rfl ?_
    refine g_icmp_ge (q := 13) (tg := 31) dJ1_indexOfChar_4cfef_10 (by decide) rfl (fun c_10 => ?_) (fun c_10 => ?_)
    · exact absurd c_10 (by rw [w32_id (x := k) (by omega) (by omega), w32_id (x := (strN i : Nat)) (by omega) (by omega)]; omega)
    · refine g_aload_n (q := 14) dJ1_indexOfChar_4cfef_13 rfl rfl ?_
      refine g_iload (q := 16) dJ1_indexOfChar_4cfef_14 rfl rfl ?_
      refine g_baldS (q := 17) hi k0 hk dJ1_indexOfChar_4cfef_16 rfl ?_
      refine g_iload (q := 19) dJ1_indexOfChar_4cfef_17 rfl rfl ?_
      refine g_icmp_ne (q := 22) (tg := 25) dJ1_indexOfChar_4cfef_19 (by decide) rfl (fun c_19 => ?_) (fun c_19 => ?_)
      · rw [w32_id (x := strB i k.toNat) (by omega) (by omega), w32_id (x := x) (by omega) (by omega)] at c_19
        refine s_iinc_6_5 (q := 28) dJ1_indexOfChar_4cfef_25 rfl rfl rfl ?_
        refine g_goto (q := 7) dJ1_indexOfChar_4cfef_28 (by decide) ?_
        refine kk _ _ (by simp [lsSub]) ⟨by omega, rfl, fun j hj => ?_⟩
        by_cases hjk : (j : Int) = k
        · rw [show k.toNat = j by omega] at c_19
          exact c_19
        · exact hno j (by omega)
      · rw [w32_id (x := strB i k.toNat) (by omega) (by omega), w32_id (x := x) (by omega) (by omega)] at c_19
        refine g_iload (q := 24) dJ1_indexOfChar_4cfef_22 rfl rfl ?_
        refine g_ireturn dJ1_indexOfChar_4cfef_24 rfl ?_
        exact ⟨_, rfl, ⟨fun _ => ⟨k.toNat, by omega, by omega⟩, fun _ => k0⟩, ⟨by omega, by omega⟩, rfl⟩
  · rintro c ⟨k0, rfl, hno⟩
    refine g_iload (q := 9) dJ1_indexOfChar_4cfef_7 rfl rfl ?_
    refine g_iload_n (q := 10) dJ1_indexOfChar_4cfef_9 rfl rfl ?_
    refine g_icmp_ge (q := 13) (tg := 31) dJ1_indexOfChar_4cfef_10 (by decide) rfl (fun c_10 => ?_) (fun c_10 => ?_)
    · refine g_iconst (q := 32) dJ1_indexOfChar_4cfef_31 rfl ?_
      refine g_ireturn dJ1_indexOfChar_4cfef_32 rfl ?_
      exact ⟨_, rfl, ⟨fun h => absurd h (by decide), fun ⟨j, hj, hj2⟩ => absurd hj2 (hno j (by omega))⟩, ⟨by omega, by omega⟩, rfl⟩
    · exact absurd c_10 (Int.lt_irrefl _)
theorem j_indexOf1 (hi : i < 3) (h0 : 0 ≤ x) (h1 : x < 128) : Mt YJ1_indexOf_4cfef (d + 1) [.inr (.inr (-12 - (i : Int))), .inl x, .inl 0, .inl (strN i : Nat)] sh sh ct (pI fun r c => (0 ≤ r ↔ hasS i x) ∧ (-1 ≤ r ∧ r ≤ 93) ∧ c = ct) := by
  have hN := strN_in i
  have hN0 : 0 < strN i := by
    rcases (show i = 0 ∨ i = 1 ∨ i = 2 by omega) with rfl | rfl | rfl <;> decide
  refine Mt.ofF (by decide +kernel) (Nat.le_of_ble_eq_true rfl) ?_
  show G _ 0 [some (.inr (.inr (-12 - (i : Int)))), some (.inl x), some (.inl 0), some (.inl (strN i : Nat))] [] sh ct
  refine g_iload_n (q := 1) dJ1_indexOf_4cfef_0 rfl rfl ?_
  refine g_callS (q := 4) lJ1_88 mJ1_canEncode_9a6ad sJ1_canEncode_9a6ad rfl (j_canEncode d sh _ h0 h1) shLe.rf (rmOk.mk (by omega) (by first | exact shLe.rf | assumption)) (Nat.le_of_ble_eq_true rfl) dJ1_indexOf_4cfef_1 rfl rfl (kI fun r_ c_ hp => ?_)
  obtain ⟨hr, hq⟩ := hp
  replace hr := hr.symm
  replace hq := hq.symm
  subst hr hq
  refine g_if_ne (q := 7) (tg := 9) dJ1_indexOf_4cfef_4 (by decide) rfl (fun c_4 => ?_) (fun c_4 => ?_)
  · refine g_iload_n (q := 10) dJ1_indexOf_4cfef_9 rfl rfl ?_
    refine g_iconst (q := 11) dJ1_indexOf_4cfef_10 rfl ?_
    refine g_mmax (q := 14) lJ1_92 tb_mmaxS tb_mI tb_mmaxC (rmOk.mk (by omega) (by first | exact shLe.rf | assumption)) (Nat.le_of_ble_eq_true rfl) dJ1_indexOf_4cfef_11 rfl ?_
    rw [if_neg (show ¬ w32 0 < w32 0 by decide)]
    refine s_istore_n_4_2 (q := 15) dJ1_indexOf_4cfef_14 rfl rfl rfl ?_
    refine g_iload_n (q := 16) dJ1_indexOf_4cfef_15 rfl rfl ?_
    refine g_aload_n (q := 17) dJ1_indexOf_4cfef_16 rfl rfl ?_
    refine g_alenS (q := 18) hi dJ1_indexOf_4cfef_17 rfl ?_
    refine g_mmin (q := 21) lJ1_38 tb_mminS tb_mI tb_mminC (rmOk.mk (by omega) (by first | exact shLe.rf | assumption)) (Nat.le_of_ble_eq_true rfl) dJ1_indexOf_4cfef_18 rfl ?_
    rw [if_neg (Int.lt_irrefl _)]
    refine s_istore_n_4_3 (q := 22) dJ1_indexOf_4cfef_21 rfl rfl rfl ?_
    refine g_iload_n (q := 23) dJ1_indexOf_4cfef_22 rfl rfl ?_
    refine g_iload_n (q := 24) dJ1_indexOf_4cfef_23 rfl rfl ?_
    refine g_icmp_lt (q := 27) (tg := 29) dJ1_indexOf_4cfef_24 (by decide) rfl (fun c_24 => ?_) (fun c_24 => ?_)
    · refine g_aload_n (q := 30) dJ1_indexOf_4cfef_29 rfl rfl ?_
      refine g_iload_n (q := 31) dJ1_indexOf_4cfef_30 rfl rfl ?_
      refine g_iload_n (q := 32) dJ1_indexOf_4cfef_31 rfl rfl ?_
      refine g_iload_n (q := 33) dJ1_indexOf_4cfef_32 rfl rfl ?_
      refine g_callS (q := 36) lJ1_95 mJ1_indexOfChar_4cfef sJ1_indexOfChar_4cfef rfl (j_indexOfChar d sh _ hi h0 h1) shLe.rf (rmOk.mk (by omega) (by first | exact shLe.rf | assumption)) (Nat.le_of_ble_eq_true rfl) dJ1_indexOf_4cfef_33 rfl rfl (kI fun r c hp => ?_)
      refine g_ireturn dJ1_indexOf_4cfef_36 rfl ?_
      exact ⟨_, rfl, hp⟩
    · exact absurd c_24 (by rw [show w32 0 = 0 from rfl, w32_id (x := (strN i : Nat)) (by omega) (by omega)]; omega)
  · exact absurd c_4 (by decide)
theorem j_indexOf2 (hi : i < 3) (h0 : 0 ≤ x) (h1 : x < 128) : Mt YJ0_indexOf_7cf53 (d + 2) [.inr (.inr (-2 - (i : Int))), .inl x, .inl 0] sh sh ct (pI fun r c => (0 ≤ r ↔ hasS i x) ∧ (-1 ≤ r ∧ r ≤ 93) ∧ c = ct) := by
  refine Mt.ofF (by decide +kernel) (Nat.le_of_ble_eq_true rfl) ?_
  show G _ 0 [some (.inr (.inr (-2 - (i : Int)))), some (.inl x), some (.inl 0)] [] sh ct
  refine g_aload_n (q := 1) dJ0_indexOf_7cf53_0 rfl rfl ?_
  refine g_callT (q := 4) hi lJ0_492 mJ0_isLatin1_aae02 nJ0_isLatin1_aae02 rfl rfl (j_isLatin1 d sh ct hi) shLe.rf (rmOk.mk (by omega) shLe.rf) (Nat.le_of_ble_eq_true rfl) dJ0_indexOf_7cf53_1 rfl rfl (kI fun r c hp => ?_)
  obtain ⟨rfl, rfl⟩ := hp
  refine g_if_eq (q := 7) (tg := 23) dJ0_indexOf_7cf53_4 (by decide) rfl (fun c_4 => ?_) (fun c_4 => ?_)
  · exact absurd c_4 (by decide)
  · refine g_aload_n (q := 8) dJ0_indexOf_7cf53_7 rfl rfl ?_
    refine g_getV (q := 11) hi kJ0_9 dJ0_indexOf_7cf53_8 rfl ?_
    refine g_iload_n (q := 12) dJ0_indexOf_7cf53_11 rfl rfl ?_
    refine g_iload_n (q := 13) dJ0_indexOf_7cf53_12 rfl rfl ?_
    refine g_aload_n (q := 14) dJ0_indexOf_7cf53_13 rfl rfl ?_
    refine g_callT (q := 17) hi lJ0_505 mJ0_length_8abf5 nJ0_length_8abf5 rfl rfl (j_length d sh c hi) shLe.rf (rmOk.mk (by omega) shLe.rf) (Nat.le_of_ble_eq_true rfl) dJ0_indexOf_7cf53_14 rfl rfl (kI fun r c2 hp => ?_)
    obtain ⟨rfl, rfl⟩ := hp
    refine g_callS (q := 20) lJ0_637 mJ1_indexOf_4cfef sJ1_indexOf_4cfef rfl (j_indexOf1 d sh _ hi h0 h1) shLe.rf (rmOk.mk (by omega) (by first | exact shLe.rf | assumption)) (Nat.le_of_ble_eq_true rfl) dJ0_indexOf_7cf53_17 rfl rfl (kI fun r c3 hp => ?_)
    refine g_goto (q := 36) dJ0_indexOf_7cf53_20 (by decide) ?_
    refine g_ireturn dJ0_indexOf_7cf53_36 rfl ?_
    exact ⟨_, rfl, hp⟩
theorem j_indexOf (hi : i < 3) (h0 : 0 ≤ x) (h1 : x < 128) : Mt YJ0_indexOf_0f7a4 (d + 3) [.inr (.inr (-2 - (i : Int))), .inl x] sh sh ct (pI fun r c => (0 ≤ r ↔ hasS i x) ∧ (-1 ≤ r ∧ r ≤ 93) ∧ c = ct) := by
  refine Mt.ofF (by decide +kernel) (Nat.le_of_ble_eq_true rfl) ?_
  show G _ 0 [some (.inr (.inr (-2 - (i : Int)))), some (.inl x)] [] sh ct
  refine g_aload_n (q := 1) dJ0_indexOf_0f7a4_0 rfl rfl ?_
  refine g_iload_n (q := 2) dJ0_indexOf_0f7a4_1 rfl rfl ?_
  refine g_iconst (q := 3) dJ0_indexOf_0f7a4_2 rfl ?_
  refine g_callT (as := [.inl x, .inl 0]) (q := 6) hi lJ0_633 mJ0_indexOf_7cf53 nJ0_indexOf_7cf53 rfl rfl (j_indexOf2 d sh ct hi h0 h1) shLe.rf (rmOk.mk (by omega) shLe.rf) (Nat.le_of_ble_eq_true rfl) dJ0_indexOf_0f7a4_3 rfl rfl (kI fun r c hp => ?_)
  refine g_ireturn dJ0_indexOf_0f7a4_6 rfl ?_
  exact ⟨_, rfl, hp⟩
end
