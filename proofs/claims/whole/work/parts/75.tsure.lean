/-! the reference: what is sure, who may have spoken -/
theorem bset_or (p : Nat → Bool) {m n : Nat} (h : m < n) : bset p n ||| 2 ^ m = bset (fun i => p i || decide (i = m)) n := by
  apply Nat.eq_of_testBit_eq
  intro i
  rw [Nat.testBit_or, bset_bit, bset_bit, Nat.testBit_two_pow]
  by_cases e : m = i
  · subst e
    simp [h]
  · have e2 : ¬ i = m := fun z => e z.symm
    simp [e, e2]
theorem orI_nat {a b : Nat} (ha : a < 2147483648) (hb : b < 2147483648) : orI a b = ((a ||| b : Nat) : Int) := by
  unfold orI
  rw [show ((a : Int) % 4294967296).toNat = a by omega, show ((b : Int) % 4294967296).toNat = b by omega]
theorem shlI_1 {m : Nat} (h : m < 31) : shlI 1 m = ((2 ^ m : Nat) : Int) := by
  unfold shlI
  rw [show (m : Int) % 32 = m by omega, Int.one_mul]
  simp
theorem isIn_v {Z k : Nat} (hZ : Z < 2147483648) (hk : k < 31) : andL (shrL Z k) 1 = b01 (Z.testBit k = true) := by
  unfold andL shrL
  rw [w64_id (by omega) (by omega), show ((k : Int) % 64).toNat = k by omega]
  have e1 : ((Z : Int) / 2 ^ k) = ((Z / 2 ^ k : Nat) : Int) := by simp
  rw [e1]
  have h1 : Z / 2 ^ k ≤ Z := Nat.div_le_self _ _
  rw [Nat.testBit_eq_decide_div_mod_eq]
  generalize Z / 2 ^ k = Q at h1 ⊢
  rw [show ((Q : Int) % 18446744073709551616).toNat = Q by omega, show ((1 : Int) % 18446744073709551616).toNat = 2 ^ 1 - 1 from rfl, Nat.and_two_pow_sub_one_eq_mod]
  unfold b01
  by_cases h : Q % 2 = 1
  · rw [if_pos (by simpa using h)]
    show ((Q % 2 : Nat) : Int) = 1
    omega
  · rw [if_neg (by simpa using h)]
    show ((Q % 2 : Nat) : Int) = 0
    omega
section
variable (d : Nat) (sh : mbSh) (ct : mbCt) {β : Bk} {mk : Int → Int} {st : Int} {sz bt : Int → Int} {vl : Int → Int → Int}
theorem tw_isIn {Z k : Nat} (hZ : Z < 2147483648) (hk : k < 31) : Mt YX12_isIn d [.inr (.inl (Z : Int)), .inl (k : Int)] sh sh ct (pI fun r c => r = b01 (Z.testBit k = true) ∧ c = ct) := by
  have h := isIn_v hZ hk
  refine Mt.of rfl (Nat.le_of_ble_eq_true rfl) ?_
  show G _ 0 [some (.inr (.inl (Z : Int))), none, some (.inl (k : Int))] [] sh ct
  refine g_lload_n (q := 1) dX12_isIn_0 rfl rfl ?_
  refine g_iload_n (q := 2) dX12_isIn_1 rfl rfl ?_
  refine g_lshr (q := 3) dX12_isIn_2 rfl ?_
  refine g_lconst1 (q := 4) dX12_isIn_3 rfl ?_
  refine g_land (q := 5) dX12_isIn_4 rfl ?_
  rw [h]
  have hb := b01_in (Z.testBit k = true)
  refine g_lconst1 (q := 6) dX12_isIn_5 rfl ?_
  refine g_lcmp (q := 7) dX12_isIn_6 rfl ?_
  refine g_if_ne (q := 10) (tg := 14) dX12_isIn_7 (by decide) rfl (fun c_7 => ?_) (fun c_7 => ?_)
  · refine g_iconst (q := 15) dX12_isIn_14 rfl ?_
    refine g_zreturn dX12_isIn_15 rfl (by decide +kernel) ?_
    refine ⟨_, rfl, ?_, rfl⟩; rw [cmp_eq] at c_7; first | (apply b01_t; apply Decidable.byContradiction; intro z; rw [← b01_f z] at c_7; exact absurd c_7 (by decide)) | (apply b01_f; intro z; rw [← b01_t z] at c_7; exact c_7 rfl)
  · refine g_iconst (q := 11) dX12_isIn_10 rfl ?_
    refine g_goto (q := 15) dX12_isIn_11 (by decide) ?_
    refine g_zreturn dX12_isIn_15 rfl (by decide +kernel) ?_
    refine ⟨_, rfl, ?_, rfl⟩; rw [cmp_eq] at c_7; first | (apply b01_t; apply Decidable.byContradiction; intro z; rw [← b01_f z] at c_7; exact absurd c_7 (by decide)) | (apply b01_f; intro z; rw [← b01_t z] at c_7; exact c_7 rfl)
theorem cW_48 {tone : Int} {tl : Int → Int} {n : Nat} : ∀ r x, cW β mk tone tl n r x ≤ 48 ^ r
  | 0, x => by
    unfold cW
    rcases b01_in (enB β x tone = true) with h | h <;> rw [h] <;> decide
  | r + 1, x => by
    unfold cW
    have h : ∀ L : List Nat, lsum (fun i => cW β mk tone tl n r (nxB β x (i / 8 : Nat) (i % 8 : Nat))) L ≤ L.length * 48 ^ r := by
      intro L
      induction L with
      | nil => simp [lsum]
      | cons a L ih =>
        have := cW_48 (tone := tone) (tl := tl) (n := n) r (nxB β x (a / 8 : Nat) (a % 8 : Nat))
        show cW β mk tone tl n r (nxB β x (a / 8 : Nat) (a % 8 : Nat)) + lsum _ L ≤ ((L.length + 1 : Nat) : Int) * 48 ^ r
        have e : ((L.length + 1 : Nat) : Int) * 48 ^ r = (L.length : Int) * 48 ^ r + 48 ^ r := by
          rw [Int.natCast_add, Int.add_mul]
          simp
        omega
    have h1 := h (brL (alwN 1 β mk x (tl ((n - (r + 1) : Nat) : Int))) 48)
    have h2 := brL_len (alwN 1 β mk x (tl ((n - (r + 1) : Nat) : Int))) 48
    have h3 : (0 : Int) ≤ 48 ^ r := Int.le_of_lt (Int.pow_pos (by decide))
    have h4 : ((brL (alwN 1 β mk x (tl ((n - (r + 1) : Nat) : Int))) 48).length : Int) * 48 ^ r ≤ 48 * 48 ^ r := Int.mul_le_mul_of_nonneg_right (by omega) h3
    rw [Int.pow_succ, Int.mul_comm (48 ^ r)]
    omega
theorem cntV_lt {tl : Int → Int} {n : Nat} (hn : n ≤ 10) (p v : Int) : cntV β mk tl n st p v < 9223372036854775808 := by
  unfold cntV
  split
  · omega
  · have := cW_48 (β := β) (mk := mk) (tone := -1) (tl := updT tl p v) (n := n) n st
    have := p48 hn
    omega
set_option maxRecDepth 4000 in
theorem tw_sureMinute {t p : Int} {tl : Int → Int} (S : SH sh) (M : MD ct β mk st) (T : MT ct sz bt vl) (ht : i32 t) (hp : i32 p) (htl : told sz vl t tl) : Mt YX12_sureMinute (d + 8) [.inr (.inr 92), .inl t, .inl p] sh sh ct (pI fun r c => (∃ no, lostNo β sz vl t p no ∧ ((no ≠ 0 ∧ r = no) ∨ (no = 0 ∧ qSure β mk tl (sz t).toNat st p r))) ∧ mF ct c) := by
  have hB := M.B
  have hb2 := hB.2.2.1
  have hb3 := hB.2.2.2.1
  have L := M.L
  generalize hP : (pI fun r c => (∃ no, lostNo β sz vl t p no ∧ ((no ≠ 0 ∧ r = no) ∨ (no = 0 ∧ qSure β mk tl (sz t).toNat st p r))) ∧ mF ct c) = Po
  refine Mt.of rfl (Nat.le_of_ble_eq_true rfl) ?_
  show G _ 0 [some (.inr (.inr 92)), some (.inl t), some (.inl p), none, none, none, none] [] sh ct
  refine g_aload_n (q := 1) dX12_sureMinute_0 rfl rfl ?_
  refine g_iconst (q := 2) dX12_sureMinute_1 rfl ?_
  refine g_putI (q := 5) (kI := 0) fX12_1 (by first | assumption | exact S.at _ rfl) dX12_sureMinute_2 rfl rfl ?_
  refine g_aload_n (q := 6) dX12_sureMinute_5 rfl rfl ?_
  refine g_iload_n (q := 7) dX12_sureMinute_6 rfl rfl ?_
  refine g_iload_n (q := 8) dX12_sureMinute_7 rfl rfl ?_
  refine g_callV (q := 11) lX12_410 mX12_noLost nX12_noLost rfl (tw_noLost (d + 3) sh _ S (M.mf mF.th) (T.mf mF.th) ht hp) (by first | assumption | exact S.at _ rfl) rfl rfl shLe.rf (rmOk.mk (by omega) (by first | exact shLe.rf | assumption)) (Nat.le_of_ble_eq_true rfl) dX12_sureMinute_8 rfl rfl (kI fun no c1 hp1 => ?_)
  obtain ⟨hno, rfl⟩ := hp1
  have hng := hno.rg
  refine s_istore_n_7_3 (q := 12) dX12_sureMinute_11 rfl rfl rfl ?_
  refine g_iload_n (q := 13) dX12_sureMinute_12 rfl rfl ?_
  refine g_if_eq (q := 16) (tg := 18) dX12_sureMinute_13 (by decide) rfl (fun c_13 => ?_) (fun c_13 => ?_)
  · have h0 : no = 0 := by unfold w32 at c_13; omega
    subst h0
    obtain ⟨hrow, p0, p1⟩ := hno.zero
    have h2 := hrow.2.1
    generalize hnn : (sz t).toNat = n at *
    have en : (n : Int) = sz t := by omega
    have R := hrow.row _ hB (T.mf (mF.th (v := 0))) en (fun i hi => htl i (by omega))
    have ep : ((p.toNat : Nat) : Int) = p := by omega
    have hpn : p.toNat < n := by omega
    have htp : toldOk β (tl p.toNat) := okN_t (R.2 p.toNat hpn)
    refine g_aload_n (q := 19) dX12_sureMinute_18 rfl rfl ?_
    refine g_iload_n (q := 20) dX12_sureMinute_19 rfl rfl ?_
    refine g_iconst (q := 21) dX12_sureMinute_20 rfl ?_
    refine g_iconst (q := 22) dX12_sureMinute_21 rfl ?_
    refine g_callV (q := 25) lX12_406 mX12_lostBy nX12_lostBy rfl (tw_lostBy d sh _ S (M.mf mF.th) R.1 (by omega) R.2 (Or.inl ⟨rfl, rfl⟩)) (by first | assumption | exact S.at _ rfl) rfl rfl shLe.rf (rmOk.mk (by omega) (by first | exact shLe.rf | assumption)) (Nat.le_of_ble_eq_true rfl) dX12_sureMinute_22 rfl rfl (kL fun r c2 hp2 => ?_)
    obtain ⟨hr, e2⟩ := hp2
    rw [if_pos rfl] at hr
    have hW := cW_48 (β := β) (mk := mk) (tone := -1) (tl := tl) (n := n) n st
    have hW0 := cW_nn (β := β) (mk := mk) (tone := -1) (tl := tl) (n := n) n st
    have hW1 := p48 (i := n) (by omega)
    have hri : -9223372036854775808 ≤ r ∧ r < 9223372036854775808 := by omega
    have e2' := mF.th.tr e2
    have fin : ∀ v c, mF ct c → qSure β mk tl n st p v → Po (some (.inl v)) c := by
      intro v c e hq
      rw [← hP]
      exact ⟨_, rfl, ⟨0, hno, Or.inr ⟨rfl, hq⟩⟩, e⟩
    have sureP : ∀ {v : Int}, (0 ≤ v ∧ v / 10 < β.n 2 ∧ v % 10 < β.n 3) → 0 < r → (cntV β mk tl n st p v = r ↔ ∀ u, fitV β mk tl n st p u → u = v) := by
      intro v hv h
      have := sure_iff (mk := mk) (st := st) hpn hB htp hv (by omega)
      rw [ep, ← hr] at this
      exact this
    refine s_lstore_7_4 (q := 27) dX12_sureMinute_25 rfl rfl rfl ?_
    refine g_iconst (q := 28) dX12_sureMinute_27 rfl ?_
    refine s_istore_7_6 (q := 30) dX12_sureMinute_28 rfl rfl rfl ?_
    refine g_for (fun v => [some (.inr (.inr 92)), some (.inl t), some (.inl p), some (.inl 0), some (.inr (.inl r)), none, some (.inl v)]) (fun v c => 0 ≤ v ∧ mF ct c ∧ ∀ u, 0 ≤ u → u < v → (u / 10 < β.n 2 ∧ u % 10 < β.n 3) → 0 < r → cntV β mk tl n st p u ≠ r) 60 ?_ ?_ (i := 0) (by omega) ⟨by omega, e2', fun u _ _ => by omega⟩ (by simp [lsSub])
    · rintro v c hv ⟨v0, e, hno2⟩ kk
      have M2 := M.mf e
      have R2 : rowT c t n tl := R.1.eq _ (by rw [e.1 112 (by decide), wr_other _ _ _ _ _ (by decide)]) (by rw [e.1 113 (by decide), wr_other _ _ _ _ _ (by decide)])
      refine g_iload (q := 32) dX12_sureMinute_30 rfl rfl ?_
      refine g_bipush (q := 34) dX12_sureMinute_32 (by decide +kernel) rfl ?_
      refine g_icmp_ge (q := 37) (tg := 77) dX12_sureMinute_34 (by decide) rfl (fun c_34 => ?_) (fun c_34 => ?_)
      · exact absurd c_34 (by unfold w32; omega)
      · refine g_lload (q := 39) dX12_sureMinute_37 rfl rfl ?_
        refine g_lconst0 (q := 40) dX12_sureMinute_39 rfl ?_
        refine g_lcmp (q := 41) dX12_sureMinute_40 rfl ?_
        refine g_if_le (q := 44) (tg := 77) dX12_sureMinute_41 (by decide) rfl (fun c_41 => ?_) (fun c_41 => ?_)
        · have hz : ¬ 0 < r := fun z => absurd (cmp_gt.mpr (show w64 0 < w64 r by rw [w64_id hri.1 hri.2]; exact z)) (by omega)
          refine g_iconst (q := 78) dX12_sureMinute_77 rfl ?_
          refine g_ireturn dX12_sureMinute_78 rfl ?_
          refine fin _ _ e (Or.inr ⟨rfl, ?_⟩)
          rintro ⟨u, hu, -⟩
          have h3 := cnt_le (mk := mk) (st := st) hpn hB htp hu.1
          rw [ep] at h3
          have := hu.2
          omega
        · have hpos : 0 < r := by
            have := cmp_gt.mp c_41
            rw [w64_id hri.1 hri.2] at this
            exact this
          refine g_aload_n (q := 45) dX12_sureMinute_44 rfl rfl ?_
          refine g_iload (q := 47) dX12_sureMinute_45 rfl rfl ?_
          refine g_i2l (q := 48) dX12_sureMinute_47 rfl ?_
          rw [w32_id (x := v) (by omega) (by omega)]
          refine g_callV (q := 51) lX12_384 mX12_isMinute nX12_isMinute rfl (tw_isMinute (d + 5) sh _ M2 S (by unfold i64; omega)) (by first | assumption | exact S.at _ rfl) rfl rfl shLe.rf (rmOk.mk (by omega) (by first | exact shLe.rf | assumption)) (Nat.le_of_ble_eq_true rfl) dX12_sureMinute_48 rfl rfl (kI fun r_ c_ hp => ?_)
          obtain ⟨hr, hq⟩ := hp
          replace hr := hr.symm
          replace hq := hq.symm
          subst hr hq
          have go : (∀ _ : v / 10 < β.n 2 ∧ v % 10 < β.n 3, cntV β mk tl n st p v ≠ r) → ∀ c3, mF ct c3 → G (mkK YX12_sureMinute (d + 8) sh sh Po) 71 [some (.inr (.inr 92)), some (.inl t), some (.inl p), some (.inl 0), some (.inr (.inl r)), none, some (.inl v)] [] sh c3 := by
            intro h c3 e3
            refine s_iinc_7_6 (q := 74) dX12_sureMinute_71 rfl rfl rfl ?_
            refine g_goto (q := 30) dX12_sureMinute_74 (by decide) ?_
            refine kk _ _ (by simp [lsSub]) ⟨by omega, e3, fun u a b l hr2 => ?_⟩
            by_cases hu : u = v
            · subst hu
              exact h l
            · exact hno2 u a (by omega) l hr2
          refine g_if_eq (q := 54) (tg := 71) dX12_sureMinute_51 (by decide) rfl (fun c_51 => ?_) (fun c_51 => ?_)
          · exact go (fun l => absurd ⟨v0, l⟩ (wb0.mp c_51)) c e
          · have hval := wbn.mp c_51
            refine g_aload_n (q := 55) dX12_sureMinute_54 rfl rfl ?_
            refine g_iload_n (q := 56) dX12_sureMinute_55 rfl rfl ?_
            refine g_iload_n (q := 57) dX12_sureMinute_56 rfl rfl ?_
            refine g_iload (q := 59) dX12_sureMinute_57 rfl rfl ?_
            refine g_callV (q := 62) lX12_406 mX12_lostBy nX12_lostBy rfl (tw_lostBy d sh _ S M2 R2 (by omega) R.2 (Or.inr ⟨p0, by omega, Or.inl hval⟩)) (by first | assumption | exact S.at _ rfl) rfl rfl shLe.rf (rmOk.mk (by omega) (by first | exact shLe.rf | assumption)) (Nat.le_of_ble_eq_true rfl) dX12_sureMinute_59 rfl rfl (kL fun r2 c3 hp3 => ?_)
            obtain ⟨hr2, e3⟩ := hp3
            rw [if_neg (by omega)] at hr2
            have hc0 := cntV_nn (β := β) (mk := mk) (st := st) (tl := tl) (n := n) p v
            have hc1 := cntV_lt (β := β) (mk := mk) (st := st) (tl := tl) (n := n) (by omega) p v
            refine g_lload (q := 64) dX12_sureMinute_62 rfl rfl ?_
            refine g_lcmp (q := 65) dX12_sureMinute_64 rfl ?_
            refine g_if_ne (q := 68) (tg := 71) dX12_sureMinute_65 (by decide) rfl (fun c_65 => ?_) (fun c_65 => ?_)
            · refine go (fun _ z => c_65 (cmp_eq.mpr (by rw [hr2, z]))) c3 (e.tr e3)
            · have heq : r2 = r := by
                have := cmp_eq.mp c_65
                rw [w64_id (by omega) (by omega), w64_id hri.1 hri.2] at this
                exact this
              have hsu := (sureP hval hpos).mp (by rw [← hr2]; exact heq)
              refine g_iload (q := 70) dX12_sureMinute_68 rfl rfl ?_
              refine g_ireturn dX12_sureMinute_70 rfl ?_
              exact fin _ _ (e.tr e3) (Or.inl ⟨⟨hval, by rw [← hr2]; omega⟩, hsu⟩)
    · rintro c ⟨-, e, hno2⟩
      refine g_iload (q := 32) dX12_sureMinute_30 rfl rfl ?_
      refine g_bipush (q := 34) dX12_sureMinute_32 (by decide +kernel) rfl ?_
      refine g_icmp_ge (q := 37) (tg := 77) dX12_sureMinute_34 (by decide) rfl (fun c_34 => ?_) (fun c_34 => ?_)
      · refine g_iconst (q := 78) dX12_sureMinute_77 rfl ?_
        refine g_ireturn dX12_sureMinute_78 rfl ?_
        refine fin _ _ e (Or.inr ⟨rfl, ?_⟩)
        rintro ⟨u, hu, huu⟩
        have h3 := cnt_le (mk := mk) (st := st) hpn hB htp hu.1
        rw [ep] at h3
        have h4 := hu.2
        have h5 := hu.1
        exact hno2 u h5.1 (by omega) h5.2 (by omega) ((sureP h5 (by omega)).mpr huu)
      · exact absurd c_34 (by decide)
  · refine g_iload_n (q := 17) dX12_sureMinute_16 rfl rfl ?_
    refine g_ireturn dX12_sureMinute_17 rfl ?_
    rw [← hP]
    exact ⟨_, rfl, ⟨no, hno, Or.inl ⟨fun z => c_13 (by rw [z]; rfl), rfl⟩⟩, mF.th⟩
set_option maxRecDepth 4000 in
theorem tw_speakers {t p : Int} {tl : Int → Int} (S : SH sh) (M : MD ct β mk st) (T : MT ct sz bt vl) (ht : i32 t) (hp : i32 p) (htl : told sz vl t tl) : Mt YX12_speakers (d + 8) [.inr (.inr 92), .inl t, .inl p] sh sh ct (pI fun r c => (∃ no, lostNo β sz vl t p no ∧ ((no ≠ 0 ∧ r = no) ∨ (no = 0 ∧ isSet 6 (fun m => ∃ v, fitV β mk tl (sz t).toNat st p v ∧ v / 10 = m) r))) ∧ mF ct c) := by
  have hB := M.B
  have hb2 := hB.2.2.1
  have hb3 := hB.2.2.2.1
  have L := M.L
  generalize hP : (pI fun r c => (∃ no, lostNo β sz vl t p no ∧ ((no ≠ 0 ∧ r = no) ∨ (no = 0 ∧ isSet 6 (fun m => ∃ v, fitV β mk tl (sz t).toNat st p v ∧ v / 10 = m) r))) ∧ mF ct c) = Po
  refine Mt.of rfl (Nat.le_of_ble_eq_true rfl) ?_
  show G _ 0 [some (.inr (.inr 92)), some (.inl t), some (.inl p), none, none, none] [] sh ct
  refine g_aload_n (q := 1) dX12_speakers_0 rfl rfl ?_
  refine g_iconst (q := 2) dX12_speakers_1 rfl ?_
  refine g_putI (q := 5) (kI := 0) fX12_1 (by first | assumption | exact S.at _ rfl) dX12_speakers_2 rfl rfl ?_
  refine g_aload_n (q := 6) dX12_speakers_5 rfl rfl ?_
  refine g_iload_n (q := 7) dX12_speakers_6 rfl rfl ?_
  refine g_iload_n (q := 8) dX12_speakers_7 rfl rfl ?_
  refine g_callV (q := 11) lX12_410 mX12_noLost nX12_noLost rfl (tw_noLost (d + 3) sh _ S (M.mf mF.th) (T.mf mF.th) ht hp) (by first | assumption | exact S.at _ rfl) rfl rfl shLe.rf (rmOk.mk (by omega) (by first | exact shLe.rf | assumption)) (Nat.le_of_ble_eq_true rfl) dX12_speakers_8 rfl rfl (kI fun no c1 hp1 => ?_)
  obtain ⟨hno, rfl⟩ := hp1
  have hng := hno.rg
  refine s_istore_n_6_3 (q := 12) dX12_speakers_11 rfl rfl rfl ?_
  refine g_iload_n (q := 13) dX12_speakers_12 rfl rfl ?_
  refine g_if_eq (q := 16) (tg := 18) dX12_speakers_13 (by decide) rfl (fun c_13 => ?_) (fun c_13 => ?_)
  · have h0 : no = 0 := by unfold w32 at c_13; omega
    subst h0
    obtain ⟨hrow, p0, p1⟩ := hno.zero
    have h2 := hrow.2.1
    generalize hnn : (sz t).toNat = n at *
    have en : (n : Int) = sz t := by omega
    have R := hrow.row _ hB (T.mf (mF.th (v := 0))) en (fun i hi => htl i (by omega))
    refine g_iconst (q := 19) dX12_speakers_18 rfl ?_
    refine s_istore_6_4 (q := 21) dX12_speakers_19 rfl rfl rfl ?_
    refine g_iconst (q := 22) dX12_speakers_21 rfl ?_
    refine s_istore_6_5 (q := 24) dX12_speakers_22 rfl rfl rfl ?_
    refine g_forA (α := Nat → Bool) (fun v q => [some (.inr (.inr 92)), some (.inl t), some (.inl p), some (.inl 0), some (.inl ((bset q 6 : Nat) : Int)), some (.inl v)]) (fun v q c => 0 ≤ v ∧ mF ct c ∧ ∀ m, m < 6 → (q m = true ↔ ∃ u, u < v ∧ fitV β mk tl n st p u ∧ u / 10 = m)) 60 ?_ ?_ (i := 0) (a := fun _ => false) (by omega) ⟨by omega, mF.th, fun m _ => ⟨fun z => by simp at z, fun ⟨u, hu, hf, _⟩ => by have := hf.1.1; omega⟩⟩ (by simp [lsSub]; decide)
    · rintro v q c hv ⟨v0, e, hq⟩ kk
      have M2 := M.mf e
      have R2 : rowT c t n tl := R.1.eq _ (by rw [e.1 112 (by decide), wr_other _ _ _ _ _ (by decide)]) (by rw [e.1 113 (by decide), wr_other _ _ _ _ _ (by decide)])
      have hz6 := bset_lt q 6
      have hv10 : (w32 v).tdiv (w32 10) = ((v / 10).toNat : Nat) := by rw [w32_id (x := v) (by omega) (by omega), td_pos v0, show w32 10 = 10 from rfl]; omega
      have go : (¬ fitV β mk tl n st p v ∨ q (v / 10).toNat = true) → ∀ c3, mF ct c3 → G (mkK YX12_speakers (d + 8) sh sh Po) 80 [some (.inr (.inr 92)), some (.inl t), some (.inl p), some (.inl 0), some (.inl ((bset q 6 : Nat) : Int)), some (.inl v)] [] sh c3 := by
        intro h c3 e3
        refine s_iinc_6_5 (q := 83) dX12_speakers_80 rfl rfl rfl ?_
        refine g_goto (q := 24) dX12_speakers_83 (by decide) ?_
        refine kk q _ _ (by simp [lsSub]) ⟨by omega, e3, fun m hm => ?_⟩
        rw [hq m hm]
        constructor
        · rintro ⟨u, a, b, f⟩
          exact ⟨u, by omega, b, f⟩
        · rintro ⟨u, a, b, f⟩
          by_cases hu : u = v
          · subst hu
            rcases h with h | h
            · exact absurd b h
            · have : (u / 10).toNat = m := by omega
              rw [this] at h
              exact (hq m hm).mp h
          · exact ⟨u, by omega, b, f⟩
      refine g_iload (q := 26) dX12_speakers_24 rfl rfl ?_
      refine g_bipush (q := 28) dX12_speakers_26 (by decide +kernel) rfl ?_
      refine g_icmp_ge (q := 31) (tg := 86) dX12_speakers_28 (by decide) rfl (fun c_28 => ?_) (fun c_28 => ?_)
      · exact absurd c_28 (by unfold w32; omega)
      · refine g_aload_n (q := 32) dX12_speakers_31 rfl rfl ?_
        refine g_iload (q := 34) dX12_speakers_32 rfl rfl ?_
        refine g_i2l (q := 35) dX12_speakers_34 rfl ?_
        rw [w32_id (x := v) (by omega) (by omega)]
        refine g_callV (q := 38) lX12_384 mX12_isMinute nX12_isMinute rfl (tw_isMinute (d + 5) sh _ M2 S (by unfold i64; omega)) (by first | assumption | exact S.at _ rfl) rfl rfl shLe.rf (rmOk.mk (by omega) (by first | exact shLe.rf | assumption)) (Nat.le_of_ble_eq_true rfl) dX12_speakers_35 rfl rfl (kI fun r_ c_ hp => ?_)
        obtain ⟨hr, hq⟩ := hp
        replace hr := hr.symm
        replace hq := hq.symm
        subst hr hq
        refine g_if_eq (q := 41) (tg := 80) dX12_speakers_38 (by decide) rfl (fun c_38 => ?_) (fun c_38 => ?_)
        · exact go (Or.inl (fun z => wb0.mp c_38 z.1)) c e
        · have hval := wbn.mp c_38
          have hm6 : (v / 10).toNat < 6 := by omega
          refine g_iload (q := 43) dX12_speakers_41 rfl rfl ?_
          refine g_i2l (q := 44) dX12_speakers_43 rfl ?_
          refine g_iload (q := 46) dX12_speakers_44 rfl rfl ?_
          refine g_bipush (q := 48) dX12_speakers_46 (by decide +kernel) rfl ?_
          refine g_idiv (q := 49) dX12_speakers_48 (by decide) rfl ?_
          rw [hv10, w32_id (x := ((bset q 6 : Nat) : Int)) (by omega) (by omega)]
          refine g_callS (q := 52) lX12_413 mX12_isIn sX12_isIn rfl (tw_isIn (d + 7) sh _ (Z := bset q 6) (k := (v / 10).toNat) (by omega) (by omega)) shLe.rf (rmOk.mk (by omega) (by first | exact shLe.rf | assumption)) (Nat.le_of_ble_eq_true rfl) dX12_speakers_49 rfl rfl (kI fun r_ c_ hp => ?_)
          obtain ⟨hr, hq⟩ := hp
          replace hr := hr.symm
          replace hq := hq.symm
          subst hr hq
          have hbit : (bset q 6).testBit (v / 10).toNat = q (v / 10).toNat := by rw [bset_bit]; simp [hm6]
          rw [hbit]
          refine g_if_ne (q := 55) (tg := 80) dX12_speakers_52 (by decide) rfl (fun c_52 => ?_) (fun c_52 => ?_)
          · exact go (Or.inr (wbn.mp c_52)) c e
          · have hqn := wb0.mp c_52
            refine g_aload_n (q := 56) dX12_speakers_55 rfl rfl ?_
            refine g_iload_n (q := 57) dX12_speakers_56 rfl rfl ?_
            refine g_iload_n (q := 58) dX12_speakers_57 rfl rfl ?_
            refine g_iload (q := 60) dX12_speakers_58 rfl rfl ?_
            refine g_callV (q := 63) lX12_406 mX12_lostBy nX12_lostBy rfl (tw_lostBy d sh _ S M2 R2 (by omega) R.2 (Or.inr ⟨p0, by omega, Or.inl hval⟩)) (by first | assumption | exact S.at _ rfl) rfl rfl shLe.rf (rmOk.mk (by omega) (by first | exact shLe.rf | assumption)) (Nat.le_of_ble_eq_true rfl) dX12_speakers_60 rfl rfl (kL fun r2 c3 hp3 => ?_)
            obtain ⟨hr2, e3⟩ := hp3
            rw [if_neg (by omega)] at hr2
            have hc0 := cntV_nn (β := β) (mk := mk) (st := st) (tl := tl) (n := n) p v
            have hc1 := cntV_lt (β := β) (mk := mk) (st := st) (tl := tl) (n := n) (by omega) p v
            have hcm : 0 < w32 (cmpL r2 0) ↔ 0 < r2 := by rw [cmp_gt, w64_id (x := r2) (by omega) (by omega)]; exact Iff.rfl
            refine g_lconst0 (q := 64) dX12_speakers_63 rfl ?_
            refine g_lcmp (q := 65) dX12_speakers_64 rfl ?_
            refine g_if_le (q := 68) (tg := 80) dX12_speakers_65 (by decide) rfl (fun c_65 => ?_) (fun c_65 => ?_)
            · exact go (Or.inl (fun z => by have := z.2; omega)) c3 (e.tr e3)
            · refine g_iload (q := 70) dX12_speakers_68 rfl rfl ?_
              refine g_iconst (q := 71) dX12_speakers_70 rfl ?_
              refine g_iload (q := 73) dX12_speakers_71 rfl rfl ?_
              refine g_bipush (q := 75) dX12_speakers_73 (by decide +kernel) rfl ?_
              refine g_idiv (q := 76) dX12_speakers_75 (by decide) rfl ?_
              rw [hv10]
              refine g_ishl (q := 77) dX12_speakers_76 rfl ?_
              rw [shlI_1 (by omega)]
              refine g_ior (q := 78) dX12_speakers_77 rfl ?_
              have hp6 : 2 ^ (v / 10).toNat < 2 ^ 6 := Nat.pow_lt_pow_right (by decide) hm6
              rw [orI_nat (by omega) (by omega), bset_or q hm6]
              refine s_istore_6_4 (q := 80) dX12_speakers_78 rfl rfl rfl ?_
              refine s_iinc_6_5 (q := 83) dX12_speakers_80 rfl rfl rfl ?_
              refine g_goto (q := 24) dX12_speakers_83 (by decide) ?_
              refine kk (fun i => q i || decide (i = (v / 10).toNat)) _ _ (by simp [lsSub]) ⟨by omega, e.tr e3, fun m hm => ?_⟩
              have hfit : fitV β mk tl n st p v := ⟨hval, by omega⟩
              rw [Bool.or_eq_true, hq m hm, decide_eq_true_eq]
              constructor
              · rintro (⟨u, a, b, f⟩ | h)
                · exact ⟨u, by omega, b, f⟩
                · exact ⟨v, by omega, hfit, by omega⟩
              · rintro ⟨u, a, b, f⟩
                by_cases hu : u = v
                · right
                  omega
                · left
                  exact ⟨u, by omega, b, f⟩
    · rintro q c ⟨-, e, hq⟩
      refine g_iload (q := 26) dX12_speakers_24 rfl rfl ?_
      refine g_bipush (q := 28) dX12_speakers_26 (by decide +kernel) rfl ?_
      refine g_icmp_ge (q := 31) (tg := 86) dX12_speakers_28 (by decide) rfl (fun c_28 => ?_) (fun c_28 => ?_)
      · refine g_iload (q := 88) dX12_speakers_86 rfl rfl ?_
        refine g_ireturn dX12_speakers_88 rfl ?_
        rw [← hP]
        refine ⟨_, rfl, ⟨0, hno, Or.inr ⟨rfl, q, rfl, fun m hm => ?_⟩⟩, e⟩
        rw [hq m hm]
        constructor
        · rintro ⟨u, a, b, f⟩
          exact ⟨u, b, f⟩
        · rintro ⟨u, b, f⟩
          have := b.1
          exact ⟨u, by omega, b, f⟩
      · exact absurd c_28 (by decide)
  · refine g_iload_n (q := 17) dX12_speakers_16 rfl rfl ?_
    refine g_ireturn dX12_speakers_17 rfl ?_
    rw [← hP]
    exact ⟨_, rfl, ⟨no, hno, Or.inl ⟨fun z => c_13 (by rw [z]; rfl), rfl⟩⟩, mF.th⟩
end
