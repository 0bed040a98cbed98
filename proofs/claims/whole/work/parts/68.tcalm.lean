/-! the reference: the calmest way, the keyword -/
section
variable (d : Nat) (sh : mbSh) (ct : mbCt) {β : Bk} {mk : Int → Int} {st : Int}
theorem tw_calmest {tone w : Int} (S : SH sh) (M : MD ct β mk st) (ht : i32 tone) (hw : i32 w) : Mt YX12_calmest (d + 6) [.inr (.inr 92), .inl tone, .inl w] sh sh ct (pI fun r c => qCalm β mk st tone w r ∧ mF ct c) := by
  have L := M.L
  have hnow := M.now
  have hrg := M.rg
  have s102 : shA sh 102 = some (20, 44800) := S.at _ rfl
  unfold i32 at hw
  have hw' : w32 w = w := w32_id hw.1 hw.2
  generalize hP : (pI fun r c => qCalm β mk st tone w r ∧ mF ct c) = Po
  have main : whOk w → G (mkK YX12_calmest (d + 6) sh sh Po) 32 [some (.inr (.inr 92)), some (.inl tone), some (.inl w), none, none] [] sh (wr ct 92 0 0) := by
    intro hk
    refine g_iload_n (q := 33) dX12_calmest_32 rfl rfl ?_
    refine g_callS (q := 36) lX12_358 mX12_isTone sX12_isTone rfl (tw_isTone (d + 4) sh _ ht) shLe.rf (rmOk.mk (by omega) (by first | exact shLe.rf | assumption)) (Nat.le_of_ble_eq_true rfl) dX12_calmest_33 rfl rfl (kI fun r_ c_ hp => ?_)
    obtain ⟨hr, hq⟩ := hp
    replace hr := hr.symm
    replace hq := hq.symm
    subst hr hq
    refine g_if_ne (q := 39) (tg := 42) dX12_calmest_36 (by decide) rfl (fun c_36 => ?_) (fun c_36 => ?_)
    · have htn := wbn.mp c_36
      have L1 : LK (wr ct 92 0 0) := (M.mf mF.th).L
      have h29 : wr ct 92 0 0 93 29 = st / 7 % 10 := by rw [wr_na (by decide)]; exact hnow.2.1
      refine g_aload_n (q := 43) dX12_calmest_42 rfl rfl ?_
      refine g_getA (q := 46) (kI := 1) fX12_13 (by first | assumption | exact S.at _ rfl) dX12_calmest_43 rfl rfl (by first | assumption | exact L.at _ _ rfl | exact LK.at (by assumption) _ _ rfl | ((repeat first | rewrite [wr_na (by decide)] | rewrite [wr_nk (by decide)] | rewrite [wa_na (by decide)]); first | assumption | exact LK.at (by assumption) _ _ rfl) | exact rfl) ?_
      refine g_bipush (q := 48) dX12_calmest_46 (by decide +kernel) rfl ?_
      refine g_iaload (q := 49) (by first | assumption | exact S.at _ rfl) (by omega) (by omega) (by omega) dX12_calmest_48 rfl ?_
      rw [h29]
      refine s_istore_n_5_3 (q := 50) dX12_calmest_49 rfl rfl rfl ?_
      refine g_for (fun h => [some (.inr (.inr 92)), some (.inl tone), some (.inl w), some (.inl h), none]) (fun h c => st / 7 % 10 ≤ h ∧ mF ct c ∧ ∀ h', st / 7 % 10 ≤ h' → h' < h → ¬ anyW β mk st (-1) (-1) h' tone 0) 10 ?_ ?_ (i := st / 7 % 10) (by omega) ⟨Int.le_refl _, mF.th, fun h' _ _ => by omega⟩ (by simp [lsSub])
      · rintro h c hh ⟨h0, e, hno⟩ kk
        have M2 := M.mf e
        refine g_iload_n (q := 51) dX12_calmest_50 rfl rfl ?_
        refine g_bipush (q := 53) dX12_calmest_51 (by decide +kernel) rfl ?_
        refine g_icmp_ge (q := 56) (tg := 127) dX12_calmest_53 (by decide) rfl (fun c_53 => ?_) (fun c_53 => ?_)
        · exact absurd c_53 (by unfold w32; omega)
        · refine g_aload_n (q := 57) dX12_calmest_56 rfl rfl ?_
          refine g_iconst (q := 58) dX12_calmest_57 rfl ?_
          refine g_iconst (q := 59) dX12_calmest_58 rfl ?_
          refine g_iload_n (q := 60) dX12_calmest_59 rfl rfl ?_
          refine g_callV (q := 63) lX12_330 mX12_laysLeads nX12_laysLeads rfl (tw_laysLeads (d + 1) sh _ S M2 (by omega) (by omega) (by omega)) (by first | assumption | exact S.at _ rfl) rfl rfl shLe.rf (rmOk.mk (by omega) (by first | exact shLe.rf | assumption)) (Nat.le_of_ble_eq_true rfl) dX12_calmest_60 rfl rfl (kN fun c1 hp => ?_)
          obtain ⟨D, e1⟩ := hp
          have M3 := M2.mf (mF.of e1 rfl)
          refine g_aload_n (q := 64) dX12_calmest_63 rfl rfl ?_
          refine g_iload_n (q := 65) dX12_calmest_64 rfl rfl ?_
          refine g_iconst (q := 66) dX12_calmest_65 rfl ?_
          refine g_callV (q := 69) lX12_354 mX12_laysMinutes nX12_laysMinutes rfl (tw_laysMinutes (d + 2) sh _ S M3 D (useN_ok _ _) (by omega) fulM_0 htn.1 (by have := htn.2; omega)) (by first | assumption | exact S.at _ rfl) rfl rfl shLe.rf (rmOk.mk (by omega) (by first | exact shLe.rf | assumption)) (Nat.le_of_ble_eq_true rfl) dX12_calmest_66 rfl rfl (kI fun r c2 hp => ?_)
          obtain ⟨hL, e2⟩ := hp
          have hwy := hL.way (useN_ok _ _)
          have hge := hwy.1.ge
          have e3 := (e.tr (mF.of e1 rfl)).tr (mF.of e2 rfl)
          have L2 : LK c2 := e3.L L
          refine s_istore_5_4 (q := 71) dX12_calmest_69 rfl rfl rfl ?_
          refine g_iload (q := 73) dX12_calmest_71 rfl rfl ?_
          refine g_iconst (q := 74) dX12_calmest_73 rfl ?_
          refine g_icmp_ne (q := 77) (tg := 80) dX12_calmest_74 (by decide) rfl (fun c_74 => ?_) (fun c_74 => ?_)
          · have hany : anyW β mk st (-1) (-1) h tone 0 := by
              apply Classical.byContradiction
              intro z
              exact c_74 (by rw [hwy.1.none.mpr z])
            have hc : clmH β mk st tone h := ⟨h0, by omega, hany, hno⟩
            have ret : ∀ v, ((w = 0 ∧ v = h) ∨ (w = 1 ∧ wyS β mk st (-1) (-1) h tone 0 v) ∨ (10 ≤ w ∧ miS β mk st (-1) (-1) h tone 0 (w - 10) v)) → Po (some (.inl v)) c2 := by
              intro v hv
              rw [← hP]
              exact ⟨_, rfl, Or.inr (Or.inr ⟨hk, htn, Or.inr ⟨h, hc, hv⟩⟩), e3⟩
            refine g_iload_n (q := 81) dX12_calmest_80 rfl rfl ?_
            refine g_if_ne (q := 84) (tg := 88) dX12_calmest_81 (by decide) rfl (fun c_81 => ?_) (fun c_81 => ?_)
            · refine g_iload_n (q := 89) dX12_calmest_88 rfl rfl ?_
              refine g_iconst (q := 90) dX12_calmest_89 rfl ?_
              refine g_icmp_ne (q := 93) (tg := 98) dX12_calmest_90 (by decide) rfl (fun c_90 => ?_) (fun c_90 => ?_)
              · have hw10 : 10 ≤ w ∧ w ≤ 29 := by
                  rcases hk with h1 | h1 | h1
                  · exact absurd (by rw [h1]; rfl) c_81
                  · exact absurd (by rw [h1]) c_90
                  · exact h1
                have hmin := hL.min (useN_ok _ _) (i := w - 10) (by omega)
                refine g_iload_n (q := 99) dX12_calmest_98 rfl rfl ?_
                refine g_bipush (q := 101) dX12_calmest_99 (by decide +kernel) rfl ?_
                refine g_isub (q := 102) dX12_calmest_101 rfl ?_
                refine g_iload (q := 104) dX12_calmest_102 rfl rfl ?_
                refine g_icmp_ge (q := 107) (tg := 119) dX12_calmest_104 (by decide) rfl (fun c_104 => ?_) (fun c_104 => ?_)
                · rw [if_neg (by unfold w32 at c_104; omega)] at hmin
                  refine g_iconst (q := 120) dX12_calmest_119 rfl ?_
                  refine g_ireturn dX12_calmest_120 rfl ?_
                  exact ret _ (Or.inr (Or.inr ⟨hw10.1, hmin⟩))
                · have hlt : w - 10 < r := by unfold w32 at c_104; omega
                  rw [if_pos hlt] at hmin
                  refine g_aload_n (q := 108) dX12_calmest_107 rfl rfl ?_
                  refine g_getA (q := 111) (kI := 23) fX12_47 (by first | assumption | exact S.at _ rfl) dX12_calmest_108 rfl rfl (by first | assumption | exact L.at _ _ rfl | exact LK.at (by assumption) _ _ rfl | ((repeat first | rewrite [wr_na (by decide)] | rewrite [wr_nk (by decide)] | rewrite [wa_na (by decide)]); first | assumption | exact LK.at (by assumption) _ _ rfl) | exact rfl) ?_
                  refine g_iload_n (q := 112) dX12_calmest_111 rfl rfl ?_
                  refine g_bipush (q := 114) dX12_calmest_112 (by decide +kernel) rfl ?_
                  refine g_isub (q := 115) dX12_calmest_114 rfl ?_
                  refine g_iaload (q := 116) (by first | assumption | exact S.at _ rfl) (by omega) (by omega) (by omega) dX12_calmest_115 rfl ?_
                  refine g_goto (q := 120) dX12_calmest_116 (by decide) ?_
                  refine g_ireturn dX12_calmest_120 rfl ?_
                  exact ret _ (Or.inr (Or.inr ⟨hw10.1, hmin⟩))
              · refine g_iload (q := 95) dX12_calmest_93 rfl rfl ?_
                refine g_goto (q := 120) dX12_calmest_95 (by decide) ?_
                refine g_ireturn dX12_calmest_120 rfl ?_
                exact ret _ (Or.inr (Or.inl ⟨by unfold w32 at c_90; omega, hwy.1⟩))
            · refine g_iload_n (q := 85) dX12_calmest_84 rfl rfl ?_
              refine g_goto (q := 120) dX12_calmest_85 (by decide) ?_
              refine g_ireturn dX12_calmest_120 rfl ?_
              exact ret _ (Or.inl ⟨by unfold w32 at c_81; omega, rfl⟩)
          · have hn : ¬ anyW β mk st (-1) (-1) h tone 0 := hwy.1.none.mp (by unfold w32 at c_74; omega)
            refine g_goto (q := 121) dX12_calmest_77 (by decide) ?_
            refine s_iinc_5_3 (q := 124) dX12_calmest_121 rfl rfl rfl ?_
            refine g_goto (q := 50) dX12_calmest_124 (by decide) ?_
            refine kk _ _ (by simp [lsSub]) ⟨by omega, e3, fun h' a b => ?_⟩
            by_cases he : h' = h
            · subst he
              exact hn
            · exact hno h' a (by omega)
      · rintro c ⟨-, e, hno⟩
        refine g_iload_n (q := 51) dX12_calmest_50 rfl rfl ?_
        refine g_bipush (q := 53) dX12_calmest_51 (by decide +kernel) rfl ?_
        refine g_icmp_ge (q := 56) (tg := 127) dX12_calmest_53 (by decide) rfl (fun c_53 => ?_) (fun c_53 => ?_)
        · refine g_iconst (q := 128) dX12_calmest_127 rfl ?_
          refine g_ireturn dX12_calmest_128 rfl ?_
          rw [← hP]
          exact ⟨_, rfl, Or.inr (Or.inr ⟨hk, htn, Or.inl ⟨rfl, fun h a b => hno h a (by omega)⟩⟩), e⟩
        · exact absurd c_53 (by decide)
    · refine g_bipush (q := 41) dX12_calmest_39 (by decide +kernel) rfl ?_
      refine g_ireturn dX12_calmest_41 rfl ?_
      rw [← hP]
      exact ⟨_, rfl, Or.inr (Or.inl ⟨hk, wb0.mp c_36, rfl⟩), mF.th⟩
  refine Mt.of rfl (Nat.le_of_ble_eq_true rfl) ?_
  show G _ 0 [some (.inr (.inr 92)), some (.inl tone), some (.inl w), none, none] [] sh ct
  refine g_aload_n (q := 1) dX12_calmest_0 rfl rfl ?_
  refine g_iconst (q := 2) dX12_calmest_1 rfl ?_
  refine g_putI (q := 5) (kI := 0) fX12_1 (by first | assumption | exact S.at _ rfl) dX12_calmest_2 rfl rfl ?_
  refine g_iload_n (q := 6) dX12_calmest_5 rfl rfl ?_
  refine g_i2l (q := 7) dX12_calmest_6 rfl ?_
  refine g_lconst0 (q := 8) dX12_calmest_7 rfl ?_
  refine g_lconst1 (q := 9) dX12_calmest_8 rfl ?_
  rw [hw']
  refine g_callS (q := 12) lX12_150 mX12_within sX12_within rfl (tw_within (d + 5) sh _) shLe.rf (rmOk.mk (by omega) (by first | exact shLe.rf | assumption)) (Nat.le_of_ble_eq_true rfl) dX12_calmest_9 rfl rfl (kI fun r_ c_ hp => ?_)
  obtain ⟨hr, hq⟩ := hp
  replace hr := hr.symm
  replace hq := hq.symm
  subst hr hq
  refine g_if_ne (q := 15) (tg := 32) dX12_calmest_12 (by decide) rfl (fun c_12 => ?_) (fun c_12 => ?_)
  · exact main (by have := wbn.mp c_12; unfold w64 at this; unfold whOk; omega)
  · have h12 := wb0.mp c_12
    refine g_iload_n (q := 16) dX12_calmest_15 rfl rfl ?_
    refine g_i2l (q := 17) dX12_calmest_16 rfl ?_
    refine g_ldc2 (q := 20) dX12_calmest_17 kX12_218 rfl ?_
    refine g_ldc2 (q := 23) dX12_calmest_20 kX12_382 rfl ?_
    rw [hw']
    refine g_callS (q := 26) lX12_150 mX12_within sX12_within rfl (tw_within (d + 5) sh _) shLe.rf (rmOk.mk (by omega) (by first | exact shLe.rf | assumption)) (Nat.le_of_ble_eq_true rfl) dX12_calmest_23 rfl rfl (kI fun r_ c_ hp => ?_)
    obtain ⟨hr, hq⟩ := hp
    replace hr := hr.symm
    replace hq := hq.symm
    subst hr hq
    refine g_if_ne (q := 29) (tg := 32) dX12_calmest_26 (by decide) rfl (fun c_26 => ?_) (fun c_26 => ?_)
    · exact main (by have := wbn.mp c_26; unfold w64 at this; unfold whOk; omega)
    · have h26 := wb0.mp c_26
      refine g_bipush (q := 31) dX12_calmest_29 (by decide +kernel) rfl ?_
      refine g_ireturn dX12_calmest_31 rfl ?_
      rw [← hP]
      exact ⟨_, rfl, Or.inl ⟨by unfold w64 at h12 h26; unfold whOk; omega, rfl⟩, mF.th⟩
theorem kwS_in {L : Nat → Int} {now : Int} (h0 : -1 ≤ now ∧ now ≤ 268435456) : ∀ k, (∀ s, s < k → -1 ≤ L s ∧ L s ≤ 268435456) → (-1 ≤ (kwS L now k).1 ∧ (kwS L now k).1 < k) ∧ -1 ≤ (kwS L now k).2 ∧ (kwS L now k).2 ≤ 268435456
  | 0, _ => ⟨⟨by show (-1 : Int) ≤ -1; omega, by show (-1 : Int) < ((0 : Nat) : Int); omega⟩, h0⟩
  | k + 1, h => by
    have ih := kwS_in h0 k (fun s hs => h s (by omega))
    have hk := h k (by omega)
    unfold kwS
    split
    · refine ⟨⟨ih.1.1, ?_⟩, ih.2⟩
      have := ih.1.2
      omega
    · exact ⟨⟨by show (-1 : Int) ≤ (k : Int); omega, by show (k : Int) < ((k + 1 : Nat) : Int); omega⟩, hk⟩
theorem tw_keyword (S : SH sh) (M : MD ct β mk st) : Mt YX12_keyword (d + 7) [.inr (.inr 92)] sh sh ct (pI fun r c => qKey β mk st r ∧ mF ct c) := by
  have L := M.L
  have hsay := M.B.2.2.2.1
  generalize hP : (pI fun r c => qKey β mk st r ∧ mF ct c) = Po
  refine Mt.of rfl (Nat.le_of_ble_eq_true rfl) ?_
  show G _ 0 [some (.inr (.inr 92)), none, none, none, none] [] sh ct
  refine g_aload_n (q := 1) dX12_keyword_0 rfl rfl ?_
  refine g_iconst (q := 2) dX12_keyword_1 rfl ?_
  refine g_putI (q := 5) (kI := 0) fX12_1 (by first | assumption | exact S.at _ rfl) dX12_keyword_2 rfl rfl ?_
  refine g_aload_n (q := 6) dX12_keyword_5 rfl rfl ?_
  refine g_iconst (q := 7) dX12_keyword_6 rfl ?_
  refine g_callV (q := 10) lX12_361 mX12_shortestNow nX12_shortestNow rfl (tw_shortestNow d sh _ S (M.mf mF.th) (by decide) (by decide)) (by first | assumption | exact S.at _ rfl) rfl rfl shLe.rf (rmOk.mk (by omega) (by first | exact shLe.rf | assumption)) (Nat.le_of_ble_eq_true rfl) dX12_keyword_7 rfl rfl (kI fun r c1 hp => ?_)
  obtain ⟨hL, e1⟩ := hp
  have hw := hL.way (useN_ok _ _)
  have hge := hw.1.ge
  have e1' := mF.th.tr e1
  refine s_istore_n_5_1 (q := 11) dX12_keyword_10 rfl rfl rfl ?_
  refine g_iload_n (q := 12) dX12_keyword_11 rfl rfl ?_
  refine g_iconst (q := 13) dX12_keyword_12 rfl ?_
  refine g_icmp_ne (q := 16) (tg := 18) dX12_keyword_13 (by decide) rfl (fun c_13 => ?_) (fun c_13 => ?_)
  · have hany : anyW β mk st (-1) (-1) 9 (-1) 0 := by
      apply Classical.byContradiction
      intro z
      exact c_13 (by rw [hw.1.none.mpr z])
    refine g_iconst (q := 19) dX12_keyword_18 rfl ?_
    refine s_istore_n_5_2 (q := 20) dX12_keyword_19 rfl rfl rfl ?_
    refine g_iconst (q := 21) dX12_keyword_20 rfl ?_
    refine s_istore_n_5_3 (q := 22) dX12_keyword_21 rfl rfl rfl ?_
    refine g_forA (α := (Nat → Int)) (fun s LL => [some (.inr (.inr 92)), some (.inl (kwS LL r s.toNat).2), some (.inl (kwS LL r s.toNat).1), some (.inl s), none]) (fun s LL c => 0 ≤ s ∧ mF ct c ∧ ∀ k : Nat, (k : Int) < s → ∃ v, wyS β mk st (-1) k 9 (-1) 0 v ∧ v ≤ 44800 ∧ LL k = lenN v) (β.n 3) ?_ ?_ (i := 0) (a := fun _ => 0) (by omega) ⟨by omega, e1', fun k hk => by omega⟩ (by simp [lsSub, kwS])
    · rintro s LL c hs ⟨s0, e, hv⟩ kk
      have M2 := M.mf e
      have hsy := M2.say
      have L2 := M2.L
      have hin := kwS_in (L := LL) (now := r) ⟨hge, by omega⟩ s.toNat (fun k hk => by
        obtain ⟨v, h1, h2, h3⟩ := hv k (by omega)
        have := h1.ge
        rw [h3]
        unfold lenN
        split <;> omega)
      refine g_iload_n (q := 23) dX12_keyword_22 rfl rfl ?_
      refine g_aload_n (q := 24) dX12_keyword_23 rfl rfl ?_
      refine g_getA (q := 27) (kI := 1) fX12_13 (by first | assumption | exact S.at _ rfl) dX12_keyword_24 rfl rfl (by first | assumption | exact L.at _ _ rfl | exact LK.at (by assumption) _ _ rfl | ((repeat first | rewrite [wr_na (by decide)] | rewrite [wr_nk (by decide)] | rewrite [wa_na (by decide)]); first | assumption | exact LK.at (by assumption) _ _ rfl) | exact rfl) ?_
      refine g_iconst (q := 28) dX12_keyword_27 rfl ?_
      refine g_iaload (q := 29) (by first | assumption | exact S.at _ rfl) (by omega) (by omega) (by omega) dX12_keyword_28 rfl ?_
      refine g_icmp_ge (q := 32) (tg := 77) dX12_keyword_29 (by decide) rfl (fun c_29 => ?_) (fun c_29 => ?_)
      · rw [hsy.1] at c_29
        exact absurd c_29 (by unfold w32; omega)
      · refine g_aload_n (q := 33) dX12_keyword_32 rfl rfl ?_
        refine g_iconst (q := 34) dX12_keyword_33 rfl ?_
        refine g_iconst (q := 35) dX12_keyword_34 rfl ?_
        refine g_iload_n (q := 36) dX12_keyword_35 rfl rfl ?_
        refine g_callV (q := 39) lX12_379 mX12_shortestBut nX12_shortestBut rfl (tw_shortestBut d sh _ S M2 (by decide) (by decide) (by omega) (by omega)) (by first | assumption | exact S.at _ rfl) rfl rfl shLe.rf (rmOk.mk (by omega) (by first | exact shLe.rf | assumption)) (Nat.le_of_ble_eq_true rfl) dX12_keyword_36 rfl rfl (kI fun r2 c2 hp => ?_)
        obtain ⟨hL2, e2⟩ := hp
        have hw2 := hL2.way (useN_ok _ _)
        have hge2 := hw2.1.ge
        have nxt : ∀ o4, G (mkK YX12_keyword (d + 7) sh sh Po) 55 [some (.inr (.inr 92)), some (.inl (kwS LL r s.toNat).2), some (.inl (kwS LL r s.toNat).1), some (.inl s), o4] [.inl (lenN r2)] sh c2 := by
          intro o4
          have hll : -1 ≤ lenN r2 ∧ lenN r2 ≤ 268435456 := by
            unfold lenN
            split <;> omega
          have inv : ∀ LL2 : Nat → Int, LL2 = (fun k => if k = s.toNat then lenN r2 else LL k) → (0 ≤ s + 1 ∧ mF ct c2 ∧ ∀ k : Nat, (k : Int) < s + 1 → ∃ v, wyS β mk st (-1) k 9 (-1) 0 v ∧ v ≤ 44800 ∧ LL2 k = lenN v) := by
            rintro LL2 rfl
            refine ⟨by omega, e.tr e2, fun k hk => ?_⟩
            by_cases hke : k = s.toNat
            · subst hke
              refine ⟨r2, ?_, hw2.2, by simp⟩
              rw [show ((s.toNat : Nat) : Int) = s by omega]
              exact hw2.1
            · obtain ⟨v, h1, h2, h3⟩ := hv k (by omega)
              exact ⟨v, h1, h2, by show (if k = s.toNat then _ else _) = _; rw [if_neg hke]; exact h3⟩
          have same : ∀ k, k ≤ s.toNat → kwS (fun k => if k = s.toNat then lenN r2 else LL k) r k = kwS LL r k := by
            intro k
            induction k with
            | zero => intro _; rfl
            | succ k ih =>
              intro hk
              have h1 := ih (by omega)
              unfold kwS
              rw [h1, if_neg (show ¬ k = s.toNat by omega)]
          have stp : kwS (fun k => if k = s.toNat then lenN r2 else LL k) r (s + 1).toNat = if lenN r2 ≤ (kwS LL r s.toNat).2 then kwS LL r s.toNat else ((s.toNat : Int), lenN r2) := by
            rw [show (s + 1).toNat = s.toNat + 1 by omega]
            show (if (if s.toNat = s.toNat then lenN r2 else LL s.toNat) ≤ _ then _ else _) = _
            rw [same s.toNat (Nat.le_refl _)]
            simp
          refine s_istore_5_4 (q := 57) dX12_keyword_55 rfl rfl rfl ?_
          refine g_iload (q := 59) dX12_keyword_57 rfl rfl ?_
          refine g_iload_n (q := 60) dX12_keyword_59 rfl rfl ?_
          refine g_icmp_gt (q := 63) (tg := 66) dX12_keyword_60 (by decide) rfl (fun c_60 => ?_) (fun c_60 => ?_)
          · have hgt : ¬ lenN r2 ≤ (kwS LL r s.toNat).2 := by unfold w32 at c_60; omega
            rw [if_neg hgt] at stp
            refine g_iload_n (q := 67) dX12_keyword_66 rfl rfl ?_
            refine s_istore_n_5_2 (q := 68) dX12_keyword_67 rfl rfl rfl ?_
            refine g_iload (q := 70) dX12_keyword_68 rfl rfl ?_
            refine s_istore_n_5_1 (q := 71) dX12_keyword_70 rfl rfl rfl ?_
            refine s_iinc_5_3 (q := 74) dX12_keyword_71 rfl rfl rfl ?_
            refine g_goto (q := 22) dX12_keyword_74 (by decide) ?_
            refine kk (fun k => if k = s.toNat then lenN r2 else LL k) _ _ ?_ (inv _ rfl)
            rw [stp]
            simp [lsSub]
            omega
          · have hle : lenN r2 ≤ (kwS LL r s.toNat).2 := by unfold w32 at c_60; omega
            rw [if_pos hle] at stp
            refine g_goto (q := 71) dX12_keyword_63 (by decide) ?_
            refine s_iinc_5_3 (q := 74) dX12_keyword_71 rfl rfl rfl ?_
            refine g_goto (q := 22) dX12_keyword_74 (by decide) ?_
            refine kk (fun k => if k = s.toNat then lenN r2 else LL k) _ _ ?_ (inv _ rfl)
            rw [stp]
            simp [lsSub]
        refine s_istore_5_4 (q := 41) dX12_keyword_39 rfl rfl rfl ?_
        refine g_iload (q := 43) dX12_keyword_41 rfl rfl ?_
        refine g_iconst (q := 44) dX12_keyword_43 rfl ?_
        refine g_icmp_ne (q := 47) (tg := 53) dX12_keyword_44 (by decide) rfl (fun c_44 => ?_) (fun c_44 => ?_)
        · have hne : r2 ≠ -1 := fun z => c_44 (by rw [z])
          refine g_iload (q := 55) dX12_keyword_53 rfl rfl ?_
          have := nxt (some (.inl r2))
          rw [show lenN r2 = r2 by unfold lenN; rw [if_neg hne]] at this
          exact this
        · have he : r2 = -1 := by unfold w32 at c_44; omega
          refine g_ldcw (q := 50) dX12_keyword_47 kX12_334 rfl ?_
          refine g_goto (q := 55) dX12_keyword_50 (by decide) ?_
          have := nxt (some (.inl r2))
          rw [show lenN r2 = 268435456 by unfold lenN; rw [if_pos he]] at this
          exact this
    · rintro LL c ⟨-, e, hv⟩
      have M2 := M.mf e
      have hsy := M2.say
      have L2 := M2.L
      refine g_iload_n (q := 23) dX12_keyword_22 rfl rfl ?_
      refine g_aload_n (q := 24) dX12_keyword_23 rfl rfl ?_
      refine g_getA (q := 27) (kI := 1) fX12_13 (by first | assumption | exact S.at _ rfl) dX12_keyword_24 rfl rfl (by first | assumption | exact L.at _ _ rfl | exact LK.at (by assumption) _ _ rfl | ((repeat first | rewrite [wr_na (by decide)] | rewrite [wr_nk (by decide)] | rewrite [wa_na (by decide)]); first | assumption | exact LK.at (by assumption) _ _ rfl) | exact rfl) ?_
      refine g_iconst (q := 28) dX12_keyword_27 rfl ?_
      refine g_iaload (q := 29) (by first | assumption | exact S.at _ rfl) (by omega) (by omega) (by omega) dX12_keyword_28 rfl ?_
      refine g_icmp_ge (q := 32) (tg := 77) dX12_keyword_29 (by decide) rfl (fun c_29 => ?_) (fun c_29 => ?_)
      · refine g_iload_n (q := 78) dX12_keyword_77 rfl rfl ?_
        refine g_ireturn dX12_keyword_78 rfl ?_
        rw [← hP]
        refine ⟨_, rfl, Or.inr ⟨hany, LL, r, hw.1, fun s hs => ?_, rfl⟩, e⟩
        obtain ⟨v, h1, h2, h3⟩ := hv s hs
        exact ⟨v, h1, h3⟩
      · rw [hsy.1] at c_29
        exact absurd c_29 (Int.lt_irrefl _)
  · refine g_iconst (q := 17) dX12_keyword_16 rfl ?_
    refine g_ireturn dX12_keyword_17 rfl ?_
    rw [← hP]
    exact ⟨_, rfl, Or.inl ⟨hw.1.none.mp (by unfold w32 at c_13; omega), rfl⟩, e1'⟩
end
