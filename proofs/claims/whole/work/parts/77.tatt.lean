/-! the reference: what to try -/
section
variable (d : Nat) (sh : mbSh) (ct : mbCt) {β : Bk} {mk : Int → Int} {st : Int} {sz bt : Int → Int} {vl : Int → Int → Int}
set_option maxRecDepth 4000 in
theorem tw_attempt {t m : Int} {tl : Int → Int} (S : SH sh) (M : MD ct β mk st) (T : MT ct sz bt vl) (ht : i32 t) (hm : i32 m) (htl : told sz vl t tl) : Mt YX12_attempt (d + 5) [.inr (.inr 92), .inl t, .inl m] sh sh ct (pI fun r c => (∃ no, keptNo β sz vl t m no ∧ ((no ≠ 0 ∧ r = no) ∨ (no = 0 ∧ qAtt β tl st m (sz t).toNat r))) ∧ mF ct c) := by
  have hB := M.B
  have hb2 := hB.2.2.1
  have hb3 := hB.2.2.2.1
  have hrg := M.rg
  generalize hP : (pI fun r c => (∃ no, keptNo β sz vl t m no ∧ ((no ≠ 0 ∧ r = no) ∨ (no = 0 ∧ qAtt β tl st m (sz t).toNat r))) ∧ mF ct c) = Po
  refine Mt.of rfl (Nat.le_of_ble_eq_true rfl) ?_
  show G _ 0 [some (.inr (.inr 92)), some (.inl t), some (.inl m), none, none, none, none, none, none, none] [] sh ct
  refine g_aload_n (q := 1) dX12_attempt_0 rfl rfl ?_
  refine g_iconst (q := 2) dX12_attempt_1 rfl ?_
  refine g_putI (q := 5) (kI := 0) fX12_1 (by first | assumption | exact S.at _ rfl) dX12_attempt_2 rfl rfl ?_
  refine g_aload_n (q := 6) dX12_attempt_5 rfl rfl ?_
  refine g_iload_n (q := 7) dX12_attempt_6 rfl rfl ?_
  refine g_iload_n (q := 8) dX12_attempt_7 rfl rfl ?_
  refine g_callV (q := 11) lX12_417 mX12_noKept nX12_noKept rfl (tw_noKept d sh _ S (M.mf mF.th) (T.mf mF.th) ht hm) (by first | assumption | exact S.at _ rfl) rfl rfl shLe.rf (rmOk.mk (by omega) (by first | exact shLe.rf | assumption)) (Nat.le_of_ble_eq_true rfl) dX12_attempt_8 rfl rfl (kI fun no c1 hp1 => ?_)
  obtain ⟨hno, rfl⟩ := hp1
  have hng := hno.rg
  refine s_istore_n_10_3 (q := 12) dX12_attempt_11 rfl rfl rfl ?_
  refine g_iload_n (q := 13) dX12_attempt_12 rfl rfl ?_
  refine g_if_eq (q := 16) (tg := 18) dX12_attempt_13 (by decide) rfl (fun c_13 => ?_) (fun c_13 => ?_)
  · have h0 : no = 0 := by unfold w32 at c_13; omega
    subst h0
    obtain ⟨hmb, hrow⟩ := hno.zero
    have h2 := hrow.2.1
    have R := hrow.row _ hB (T.mf (mF.th (v := 0))) (show (((sz t).toNat : Nat) : Int) = sz t by omega) (fun i hi => htl i (by omega))
    refine g_aload_n (q := 19) dX12_attempt_18 rfl rfl ?_
    refine g_iload_n (q := 20) dX12_attempt_19 rfl rfl ?_
    refine g_iload_n (q := 21) dX12_attempt_20 rfl rfl ?_
    refine g_callV (q := 24) lX12_420 mX12_keptSet nX12_keptSet rfl (tw_keptSet (d + 1) sh _ S (M.mf mF.th) R.1 R.2 hmb) (by first | assumption | exact S.at _ rfl) rfl rfl shLe.rf (rmOk.mk (by omega) (by first | exact shLe.rf | assumption)) (Nat.le_of_ble_eq_true rfl) dX12_attempt_21 rfl rfl (kI fun r c2 hp2 => ?_)
    obtain ⟨⟨q, rfl, hq⟩, e2⟩ := hp2
    have e2' := (mF.th (v := 0)).tr (mF.of e2 rfl)
    have hz10 := bset_lt q 10
    have fin : ∀ v c, mF ct c → ((bset q 10 = 0 ∧ v = -1) ∨ (bset q 10 ≠ 0 ∧ v = (kwS (attL β st m q) (-1) (β.n 3).toNat).1)) → Po (some (.inl v)) c := by
      intro v c e h
      rw [← hP]
      exact ⟨_, rfl, ⟨0, hno, Or.inr ⟨rfl, q, hq, h⟩⟩, e⟩
    refine s_istore_10_4 (q := 26) dX12_attempt_24 rfl rfl rfl ?_
    refine g_iconst (q := 27) dX12_attempt_26 rfl ?_
    refine s_istore_10_5 (q := 29) dX12_attempt_27 rfl rfl rfl ?_
    refine g_iconst (q := 30) dX12_attempt_29 rfl ?_
    refine s_istore_10_6 (q := 32) dX12_attempt_30 rfl rfl rfl ?_
    refine g_iconst (q := 33) dX12_attempt_32 rfl ?_
    refine s_istore_10_7 (q := 35) dX12_attempt_33 rfl rfl rfl ?_
    by_cases hz : bset q 10 = 0
    · have M2 := M.mf e2'
      have L2 := M2.L
      refine g_iload (q := 37) dX12_attempt_35 rfl rfl ?_
      refine g_aload_n (q := 38) dX12_attempt_37 rfl rfl ?_
      refine g_getA (q := 41) (kI := 1) fX12_13 (by first | assumption | exact S.at _ rfl) dX12_attempt_38 rfl rfl (by first | assumption | exact L.at _ _ rfl | exact LK.at (by assumption) _ _ rfl | ((repeat first | rewrite [wr_na (by decide)] | rewrite [wr_nk (by decide)] | rewrite [wa_na (by decide)]); first | assumption | exact LK.at (by assumption) _ _ rfl) | exact rfl) ?_
      refine g_iconst (q := 42) dX12_attempt_41 rfl ?_
      refine g_iaload (q := 43) (by first | assumption | exact S.at _ rfl) (by omega) (by omega) (by omega) dX12_attempt_42 rfl ?_
      refine g_icmp_ge (q := 46) (tg := 159) dX12_attempt_43 (by decide) rfl (fun c_43 => ?_) (fun c_43 => ?_)
      · refine g_iload (q := 161) dX12_attempt_159 rfl rfl ?_
        refine g_ireturn dX12_attempt_161 rfl ?_
        exact fin _ _ e2' (Or.inl ⟨hz, rfl⟩)
      · refine g_iload (q := 48) dX12_attempt_46 rfl rfl ?_
        refine g_if_eq (q := 51) (tg := 159) dX12_attempt_48 (by decide) rfl (fun c_48 => ?_) (fun c_48 => ?_)
        · refine g_iload (q := 161) dX12_attempt_159 rfl rfl ?_
          refine g_ireturn dX12_attempt_161 rfl ?_
          exact fin _ _ e2' (Or.inl ⟨hz, rfl⟩)
        · rw [hz] at c_48
          exact absurd rfl c_48
    · refine g_for (fun s => [some (.inr (.inr 92)), some (.inl t), some (.inl m), some (.inl 0), some (.inl ((bset q 10 : Nat) : Int)), some (.inl (kwS (attL β st m q) (-1) s.toNat).1), some (.inl (kwS (attL β st m q) (-1) s.toNat).2), some (.inl s), none, none]) (fun s c => 0 ≤ s ∧ mF ct c) (β.n 3) ?_ ?_ (i := 0) (by omega) ⟨by omega, e2'⟩ (by simp [lsSub, kwS])
      · rintro s c hs ⟨s0, e⟩ kk
        have M2 := M.mf e
        have L2 := M2.L
        have hsy := M2.say
        have es : ((s.toNat : Nat) : Int) = s := by omega
        have hkw := kwS_in (L := attL β st m q) (now := -1) ⟨by decide, by decide⟩ s.toNat (fun k _ => by have := attL_in β st m q k; omega)
        have hat := attL_in β st m q s.toNat
        refine g_iload (q := 37) dX12_attempt_35 rfl rfl ?_
        refine g_aload_n (q := 38) dX12_attempt_37 rfl rfl ?_
        refine g_getA (q := 41) (kI := 1) fX12_13 (by first | assumption | exact S.at _ rfl) dX12_attempt_38 rfl rfl (by first | assumption | exact L.at _ _ rfl | exact LK.at (by assumption) _ _ rfl | ((repeat first | rewrite [wr_na (by decide)] | rewrite [wr_nk (by decide)] | rewrite [wa_na (by decide)]); first | assumption | exact LK.at (by assumption) _ _ rfl) | exact rfl) ?_
        refine g_iconst (q := 42) dX12_attempt_41 rfl ?_
        refine g_iaload (q := 43) (by first | assumption | exact S.at _ rfl) (by omega) (by omega) (by omega) dX12_attempt_42 rfl ?_
        refine g_icmp_ge (q := 46) (tg := 159) dX12_attempt_43 (by decide) rfl (fun c_43 => ?_) (fun c_43 => ?_)
        · rw [hsy.1] at c_43
          exact absurd c_43 (by unfold w32; omega)
        · refine g_iload (q := 48) dX12_attempt_46 rfl rfl ?_
          refine g_if_eq (q := 51) (tg := 159) dX12_attempt_48 (by decide) rfl (fun c_48 => ?_) (fun c_48 => ?_)
          · exact absurd c_48 (by unfold w32; omega)
          · refine g_iconst (q := 52) dX12_attempt_51 rfl ?_
            refine s_istore_10_8 (q := 54) dX12_attempt_52 rfl rfl rfl ?_
            refine g_iconst (q := 55) dX12_attempt_54 rfl ?_
            refine s_istore_10_9 (q := 57) dX12_attempt_55 rfl rfl rfl ?_
            refine g_for (fun k => [some (.inr (.inr 92)), some (.inl t), some (.inl m), some (.inl 0), some (.inl ((bset q 10 : Nat) : Int)), some (.inl (kwS (attL β st m q) (-1) s.toNat).1), some (.inl (kwS (attL β st m q) (-1) s.toNat).2), some (.inl s), some (.inl ((cntB (fun k => q k && β.W st m k s.toNat) k.toNat : Nat) : Int)), some (.inl k)]) (fun k c => 0 ≤ k ∧ mF ct c) 10 ?_ ?_ (i := 0) (by omega) ⟨by omega, e⟩ (by simp [lsSub]; rfl)
            · rintro k c hk ⟨k0, e⟩ k2
              have M2 := M.mf e
              have ek : ((k.toNat : Nat) : Int) = k := by omega
              have nxt : ∀ v c3, mF ct c3 → v = b01 ((q k.toNat && β.W st m k.toNat s.toNat) = true) → G (mkK YX12_attempt (d + 5) sh sh Po) 98 [some (.inr (.inr 92)), some (.inl t), some (.inl m), some (.inl 0), some (.inl ((bset q 10 : Nat) : Int)), some (.inl (kwS (attL β st m q) (-1) s.toNat).1), some (.inl (kwS (attL β st m q) (-1) s.toNat).2), some (.inl s), some (.inl ((cntB (fun k => q k && β.W st m k s.toNat) k.toNat : Nat) : Int)), some (.inl k)] [.inl v, .inl ((cntB (fun k => q k && β.W st m k s.toNat) k.toNat : Nat) : Int)] sh c3 := by
                intro v c3 e3 hv
                refine g_iadd (q := 99) dX12_attempt_98 rfl ?_
                refine s_istore_10_8 (q := 101) dX12_attempt_99 rfl rfl rfl ?_
                refine s_iinc_10_9 (q := 104) dX12_attempt_101 rfl rfl rfl ?_
                refine g_goto (q := 57) dX12_attempt_104 (by decide) ?_
                refine k2 _ _ ?_ ⟨by omega, e3⟩
                have hs2 : ((cntB (fun k => q k && β.W st m k s.toNat) (k + 1).toNat : Nat) : Int) = (cntB (fun k => q k && β.W st m k s.toNat) k.toNat : Nat) + v := by
                  rw [show (k + 1).toNat = k.toNat + 1 by omega, hv]
                  show ((cntB (fun k => q k && β.W st m k s.toNat) k.toNat + (if (q k.toNat && β.W st m k.toNat s.toNat) = true then 1 else 0) : Nat) : Int) = _
                  unfold b01
                  split <;> simp
                rw [hs2]
                simp [lsSub]
              refine g_iload (q := 59) dX12_attempt_57 rfl rfl ?_
              refine g_bipush (q := 61) dX12_attempt_59 (by decide +kernel) rfl ?_
              refine g_icmp_ge (q := 64) (tg := 107) dX12_attempt_61 (by decide) rfl (fun c_61 => ?_) (fun c_61 => ?_)
              · exact absurd c_61 (by unfold w32; omega)
              · refine g_iload (q := 66) dX12_attempt_64 rfl rfl ?_
                refine g_iload (q := 68) dX12_attempt_66 rfl rfl ?_
                refine g_i2l (q := 69) dX12_attempt_68 rfl ?_
                refine g_iload (q := 71) dX12_attempt_69 rfl rfl ?_
                rw [w32_id (x := ((bset q 10 : Nat) : Int)) (by omega) (by omega)]
                have hii := tw_isIn (d + 4) sh c (Z := bset q 10) (k := k.toNat) (by omega) (by omega)
                rw [ek] at hii
                refine g_callS (q := 74) lX12_413 mX12_isIn sX12_isIn rfl (hii) shLe.rf (rmOk.mk (by omega) (by first | exact shLe.rf | assumption)) (Nat.le_of_ble_eq_true rfl) dX12_attempt_71 rfl rfl (kI fun r_ c_ hp => ?_)
                obtain ⟨hr, hq⟩ := hp
                replace hr := hr.symm
                replace hq := hq.symm
                subst hr hq
                have hbit : (bset q 10).testBit k.toNat = q k.toNat := by rw [bset_bit]; simp; omega
                rw [hbit]
                refine g_if_eq (q := 77) (tg := 97) dX12_attempt_74 (by decide) rfl (fun c_74 => ?_) (fun c_74 => ?_)
                · have hqk := wb0.mp c_74
                  refine g_iconst (q := 98) dX12_attempt_97 rfl ?_
                  exact nxt 0 c e (b01_f (by simp [hqk]))
                · have hqk := wbn.mp c_74
                  refine g_aload_n (q := 78) dX12_attempt_77 rfl rfl ?_
                  refine g_aload_n (q := 79) dX12_attempt_78 rfl rfl ?_
                  refine g_callV (q := 82) lX12_251 mX12_standNow nX12_standNow rfl (tw_standNow (d + 4) sh _ M2 S) (by first | assumption | exact S.at _ rfl) rfl rfl shLe.rf (rmOk.mk (by omega) (by first | exact shLe.rf | assumption)) (Nat.le_of_ble_eq_true rfl) dX12_attempt_79 rfl rfl (kI fun r_ c_ hp => ?_)
                  obtain ⟨hr, hq⟩ := hp
                  replace hr := hr.symm
                  replace hq := hq.symm
                  subst hr hq
                  refine g_iload_n (q := 83) dX12_attempt_82 rfl rfl ?_
                  refine g_iload (q := 85) dX12_attempt_83 rfl rfl ?_
                  refine g_iload (q := 87) dX12_attempt_85 rfl rfl ?_
                  refine g_callV (q := 90) lX12_244 mX12_wouldBy nX12_wouldBy rfl (tw_wouldBy (d + 2) sh _ S M2 hrg.1 hrg.2 hmb.1 (by omega) s0 (by omega) k0 (by omega)) (by first | assumption | exact S.at _ rfl) rfl rfl shLe.rf (rmOk.mk (by omega) (by first | exact shLe.rf | assumption)) (Nat.le_of_ble_eq_true rfl) dX12_attempt_87 rfl rfl (kI fun r3 c3 hp3 => ?_)
                  obtain ⟨rfl, e3⟩ := hp3
                  refine g_if_eq (q := 93) (tg := 97) dX12_attempt_90 (by decide) rfl (fun c_90 => ?_) (fun c_90 => ?_)
                  · have hw := wb0.mp c_90
                    refine g_iconst (q := 98) dX12_attempt_97 rfl ?_
                    exact nxt 0 c3 (e.tr (mF.of e3 rfl)) (b01_f (by rw [ek, es]; simp [hw]))
                  · have hw := wbn.mp c_90
                    refine g_iconst (q := 94) dX12_attempt_93 rfl ?_
                    refine g_goto (q := 98) dX12_attempt_94 (by decide) ?_
                    exact nxt 1 c3 (e.tr (mF.of e3 rfl)) (b01_t (by rw [ek, es]; simp [hqk, hw]))
            · rintro c ⟨-, e⟩
              rw [show (10 : Int).toNat = 10 from rfl]
              have hw10 := cntB_le (fun k => q k && β.W st m k s.toNat) 10
              have hq10 := cntB_le q 10
              have ends : ∀ w8 : Int, G (mkK YX12_attempt (d + 5) sh sh Po) 133 [some (.inr (.inr 92)), some (.inl t), some (.inl m), some (.inl 0), some (.inl ((bset q 10 : Nat) : Int)), some (.inl (kwS (attL β st m q) (-1) s.toNat).1), some (.inl (kwS (attL β st m q) (-1) s.toNat).2), some (.inl s), some (.inl w8), some (.inl 10)] [.inl (attL β st m q s.toNat)] sh c := by
                intro w8
                have stp : kwS (attL β st m q) (-1) (s + 1).toNat = if attL β st m q s.toNat ≤ (kwS (attL β st m q) (-1) s.toNat).2 then kwS (attL β st m q) (-1) s.toNat else ((s.toNat : Int), attL β st m q s.toNat) := by
                  rw [show (s + 1).toNat = s.toNat + 1 by omega]
                  rfl
                refine s_istore_10_9 (q := 135) dX12_attempt_133 rfl rfl rfl ?_
                refine g_iload (q := 137) dX12_attempt_135 rfl rfl ?_
                refine g_iload (q := 139) dX12_attempt_137 rfl rfl ?_
                refine g_icmp_gt (q := 142) (tg := 145) dX12_attempt_139 (by decide) rfl (fun c_139 => ?_) (fun c_139 => ?_)
                · have hgt : ¬ attL β st m q s.toNat ≤ (kwS (attL β st m q) (-1) s.toNat).2 := by unfold w32 at c_139; omega
                  rw [if_neg hgt] at stp
                  refine g_iload (q := 147) dX12_attempt_145 rfl rfl ?_
                  refine s_istore_10_5 (q := 149) dX12_attempt_147 rfl rfl rfl ?_
                  refine g_iload (q := 151) dX12_attempt_149 rfl rfl ?_
                  refine s_istore_10_6 (q := 153) dX12_attempt_151 rfl rfl rfl ?_
                  refine s_iinc_10_7 (q := 156) dX12_attempt_153 rfl rfl rfl ?_
                  refine g_goto (q := 35) dX12_attempt_156 (by decide) ?_
                  refine kk _ _ ?_ ⟨by omega, e⟩
                  rw [stp]
                  simp [lsSub]
                  omega
                · have hle : attL β st m q s.toNat ≤ (kwS (attL β st m q) (-1) s.toNat).2 := by unfold w32 at c_139; omega
                  rw [if_pos hle] at stp
                  refine g_goto (q := 153) dX12_attempt_142 (by decide) ?_
                  refine s_iinc_10_7 (q := 156) dX12_attempt_153 rfl rfl rfl ?_
                  refine g_goto (q := 35) dX12_attempt_156 (by decide) ?_
                  refine kk _ _ ?_ ⟨by omega, e⟩
                  rw [stp]
                  simp [lsSub]
              refine g_iload (q := 59) dX12_attempt_57 rfl rfl ?_
              refine g_bipush (q := 61) dX12_attempt_59 (by decide +kernel) rfl ?_
              refine g_icmp_ge (q := 64) (tg := 107) dX12_attempt_61 (by decide) rfl (fun c_61 => ?_) (fun c_61 => ?_)
              · refine g_iload (q := 109) dX12_attempt_107 rfl rfl ?_
                refine g_iload (q := 111) dX12_attempt_109 rfl rfl ?_
                refine g_callS (q := 114) lX12_268 mX12_bitsOf sX12_bitsOf rfl (tw_bitsOf (d + 4) sh _ (q := q)) shLe.rf (rmOk.mk (by omega) (by first | exact shLe.rf | assumption)) (Nat.le_of_ble_eq_true rfl) dX12_attempt_111 rfl rfl (kI fun r_ c_ hp => ?_)
                obtain ⟨hr, hq⟩ := hp
                replace hr := hr.symm
                replace hq := hq.symm
                subst hr hq
                refine g_iload (q := 116) dX12_attempt_114 rfl rfl ?_
                refine g_isub (q := 117) dX12_attempt_116 rfl ?_
                refine g_icmp_ge (q := 120) (tg := 125) dX12_attempt_117 (by decide) rfl (fun c_117 => ?_) (fun c_117 => ?_)
                · have hge : ¬ ((cntB (fun k => q k && β.W st m k s.toNat) 10 : Nat) : Int) < (cntB q 10 : Int) - cntB (fun k => q k && β.W st m k s.toNat) 10 := by unfold w32 at c_117; omega
                  refine g_iload (q := 127) dX12_attempt_125 rfl rfl ?_
                  refine g_callS (q := 130) lX12_268 mX12_bitsOf sX12_bitsOf rfl (tw_bitsOf (d + 4) sh _ (q := q)) shLe.rf (rmOk.mk (by omega) (by first | exact shLe.rf | assumption)) (Nat.le_of_ble_eq_true rfl) dX12_attempt_127 rfl rfl (kI fun r_ c_ hp => ?_)
                  obtain ⟨hr, hq⟩ := hp
                  replace hr := hr.symm
                  replace hq := hq.symm
                  subst hr hq
                  refine g_iload (q := 132) dX12_attempt_130 rfl rfl ?_
                  refine g_isub (q := 133) dX12_attempt_132 rfl ?_
                  have := ends ((cntB (fun k => q k && β.W st m k s.toNat) 10 : Nat) : Int)
                  rw [show attL β st m q s.toNat = (cntB q 10 : Int) - cntB (fun k => q k && β.W st m k s.toNat) 10 by unfold attL; rw [if_neg hge]] at this
                  exact this
                · have hlt : ((cntB (fun k => q k && β.W st m k s.toNat) 10 : Nat) : Int) < (cntB q 10 : Int) - cntB (fun k => q k && β.W st m k s.toNat) 10 := by unfold w32 at c_117; omega
                  refine g_iload (q := 122) dX12_attempt_120 rfl rfl ?_
                  refine g_goto (q := 133) dX12_attempt_122 (by decide) ?_
                  have := ends ((cntB (fun k => q k && β.W st m k s.toNat) 10 : Nat) : Int)
                  rw [show attL β st m q s.toNat = (cntB (fun k => q k && β.W st m k s.toNat) 10 : Int) by unfold attL; rw [if_pos hlt]] at this
                  exact this
              · exact absurd c_61 (by decide)
      · rintro c ⟨-, e⟩
        have M2 := M.mf e
        have L2 := M2.L
        have hsy := M2.say
        refine g_iload (q := 37) dX12_attempt_35 rfl rfl ?_
        refine g_aload_n (q := 38) dX12_attempt_37 rfl rfl ?_
        refine g_getA (q := 41) (kI := 1) fX12_13 (by first | assumption | exact S.at _ rfl) dX12_attempt_38 rfl rfl (by first | assumption | exact L.at _ _ rfl | exact LK.at (by assumption) _ _ rfl | ((repeat first | rewrite [wr_na (by decide)] | rewrite [wr_nk (by decide)] | rewrite [wa_na (by decide)]); first | assumption | exact LK.at (by assumption) _ _ rfl) | exact rfl) ?_
        refine g_iconst (q := 42) dX12_attempt_41 rfl ?_
        refine g_iaload (q := 43) (by first | assumption | exact S.at _ rfl) (by omega) (by omega) (by omega) dX12_attempt_42 rfl ?_
        refine g_icmp_ge (q := 46) (tg := 159) dX12_attempt_43 (by decide) rfl (fun c_43 => ?_) (fun c_43 => ?_)
        · refine g_iload (q := 161) dX12_attempt_159 rfl rfl ?_
          refine g_ireturn dX12_attempt_161 rfl ?_
          exact fin _ _ e (Or.inr ⟨hz, rfl⟩)
        · rw [hsy.1] at c_43
          exact absurd c_43 (Int.lt_irrefl _)
  · refine g_iload_n (q := 17) dX12_attempt_16 rfl rfl ?_
    refine g_ireturn dX12_attempt_17 rfl ?_
    rw [← hP]
    exact ⟨_, rfl, ⟨no, hno, Or.inl ⟨fun z => c_13 (by rw [z]; rfl), rfl⟩⟩, mF.th⟩
end
