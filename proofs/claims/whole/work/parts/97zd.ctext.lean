/-! the class reads sayings, lines, a whole text -/
section
variable (d : Nat) (sh : mbSh) (ct : mbCt) {b T : Int} {K Pl : Int → Int} {a : PS × BS} {σ : PS}
theorem r_readSaying (S : SH sh) (R : RB ct b T K Pl a) (hI : bkRi T a) (ht : tkP K a.1 = 133) : Mt YX6_readSaying (d + 2) [.inr (.inr 64)] sh sh ct (pN fun c => RB c b T K Pl (lineB T K Pl a) ∧ rbF b ct c) := by
  have D := R.1
  have L := D.L
  have hbb := D.1.2.1
  have hw := tk_w (K := K) (σ := a.1) (by omega)
  have hg := hI.1
  have hF := hI.2 hw
  have hM := R.2 hw
  have hkd := D.kd
  have hin := D.into
  obtain ⟨s0, s1, s2, s3, s4, l1, l2, l3, l4⟩ := bkAt_b S L hbb
  have hm : ct b 3 = a.2.1 3 := hM.1 3 (by decide) (by decide) (by decide)
  have hm2 := hF.1.2.2.2.1
  generalize hPo : (pN fun c => RB c b T K Pl (lineB T K Pl a) ∧ rbF b ct c) = Po
  unfold lineB at hPo
  rw [if_neg (by omega), if_pos ht] at hPo
  refine Mt.of rfl (Nat.le_of_ble_eq_true rfl) ?_
  show G _ 0 [some (.inr (.inr 64)), none, none, none, none] [] sh ct
  refine g_aload_n (q := 1) dX6_readSaying_0 rfl rfl ?_
  refine g_getO (q := 4) (kI := 9) fX6_26 (by first | assumption | exact S.at _ rfl) dX6_readSaying_1 rfl rfl hin ?_
  refine g_getI (q := 7) (kI := 3) fX6_162 (by first | assumption | exact S.at _ rfl) dX6_readSaying_4 rfl rfl ?_
  rw [hm]
  refine s_istore_n_5_1 (q := 8) dX6_readSaying_7 rfl rfl rfl ?_
  refine g_iload_n (q := 9) dX6_readSaying_8 rfl rfl ?_
  refine g_bipush (q := 11) dX6_readSaying_9 (by decide +kernel) rfl ?_
  refine g_icmp_lt (q := 14) (tg := 20) dX6_readSaying_11 (by decide) rfl (fun c_11 => ?_) (fun c_11 => ?_)
  · rw [w32_id (x := a.2.1 3) (by omega) (by omega), show w32 8 = 8 from rfl] at c_11
    rw [if_neg (by omega)] at hPo
    refine g_aload_n (q := 21) dX6_readSaying_20 rfl rfl ?_
    refine g_getO (q := 24) (kI := 9) fX6_26 (by first | assumption | exact S.at _ rfl) dX6_readSaying_21 rfl rfl hin ?_
    refine g_dup (q := 25) dX6_readSaying_24 rfl rfl ?_
    refine g_getI (q := 28) (kI := 3) fX6_162 (by first | assumption | exact S.at _ rfl) dX6_readSaying_25 rfl rfl ?_
    rw [hm]
    obtain ⟨R1, f1⟩ := RB.wn (n := a.2.1) (β := a.2.2) (σ := a.1) (k := 3) (v := a.2.1 3 + 1) (v2 := a.2.1 3 + 1) R (by decide) (by decide) (by decide) (fun _ => rfl)
    refine g_iconst (q := 29) dX6_readSaying_28 rfl ?_
    refine g_iadd (q := 30) dX6_readSaying_29 rfl ?_
    refine g_putI (q := 33) (kI := 3) fX6_162 (by first | assumption | exact S.at _ rfl) dX6_readSaying_30 rfl rfl ?_
    refine g_aload_n (q := 34) dX6_readSaying_33 rfl rfl ?_
    generalize wr ct b 3 (a.2.1 3 + 1) = c1 at R1 f1
    have D1 := R1.1
    have M1 := R1.2 hw
    refine g_callV (q := 37) lX6_104 mX6_step nX6_step rfl (r_step 0 sh _ S D1) (by first | assumption | exact S.at _ rfl) rfl rfl shLe.rf (rmOk.mk (by omega) (by first | exact shLe.rf | assumption)) (Nat.le_of_ble_eq_true rfl) dX6_readSaying_34 rfl rfl (kN fun c2 hp => ?_)
    obtain ⟨D2, f2⟩ := hp
    have n2 := stepNC hg
    have M2 := M1.fr hbb f2
    refine g_iconst (q := 38) dX6_readSaying_37 rfl ?_
    refine s_istore_n_5_2 (q := 39) dX6_readSaying_38 rfl rfl rfl ?_
    refine g_forA (α := PS × (Int → Int) × (Int → Int)) (fun i _ => [some (.inr (.inr 64)), some (.inl (a.2.1 3)), some (.inl i), none, none]) (fun i e c => 0 ≤ i ∧ RD c b T K Pl e.1 ∧ NC T a.1 e.1 ∧ rbF b ct c ∧ bkM c b (upP a.2.1 3 (a.2.1 3 + 1), a.2.2.1, e.2) ∧ syL T K Pl (a.2.1 3) (T - i).toNat e = syL T K Pl (a.2.1 3) T.toNat (stepP T a.1, a.2.2.2)) T ?_ ?_ (i := 0) (a := (stepP T a.1, a.2.2.2)) (by have := hkd.1; omega) ⟨Int.le_refl _, D2, n2, f1.tr f2.rb, M2, by rw [show T - 0 = T by omega]⟩ (by simp [lsSub])
    · rintro i ⟨τ, tt, hh⟩ c hi ⟨i0, D3, n3, f3, M3, e3⟩ kk
      dsimp only at D3 n3 M3
      have L := D3.L
      have htb := D3.tb
      have hT := hkd.1
      have hto := D3.toks
      have h7 := D3.2.2.1
      have hwt : w32 (tkP K τ) = tkP K τ := w32_id (by omega) (by omega)
      have out : ¬ (134 ≤ tkP K τ ∧ tkP K τ ≤ 137) → G (mkK YX6_readSaying (d + 2) sh sh Po) 155 [some (.inr (.inr 64)), some (.inl (a.2.1 3)), some (.inl i), none, none] [] sh c := by
        intro hno
        have e4 : syL T K Pl (a.2.1 3) (T - i).toNat (τ, tt, hh) = (τ, tt, hh) := by
          cases (T - i).toNat with
          | zero => rfl
          | succ n => show (if 134 ≤ tkP K τ ∧ tkP K τ ≤ 137 then _ else _) = _; rw [if_neg hno]
        rw [e4] at e3
        refine g_return dX6_readSaying_155 rfl ?_
        rw [← hPo, ← e3]
        exact ⟨rfl, ⟨D3, fun _ => M3⟩, f3⟩
      refine g_iload_n (q := 40) dX6_readSaying_39 rfl rfl ?_
      refine g_aload_n (q := 41) dX6_readSaying_40 rfl rfl ?_
      refine g_getI (q := 44) (kI := 5) fX6_57 (by first | assumption | exact S.at _ rfl) dX6_readSaying_41 rfl rfl ?_
      rw [hto]
      refine g_icmp_ge (q := 47) (tg := 155) dX6_readSaying_44 (by decide) rfl (fun c_44 => ?_) (fun c_44 => ?_)
      · exact absurd c_44 (by rw [w32_id (x := i) (by omega) (by omega), w32_id (x := T) (by omega) (by omega)]; omega)
      · refine g_aload_n (q := 48) dX6_readSaying_47 rfl rfl ?_
        refine g_getI (q := 51) (kI := 7) fX6_51 (by first | assumption | exact S.at _ rfl) dX6_readSaying_48 rfl rfl ?_
        rw [h7]
        refine g_sipush (q := 54) dX6_readSaying_51 (by decide +kernel) rfl ?_
        refine g_icmp_lt (q := 57) (tg := 155) dX6_readSaying_54 (by decide) rfl (fun c_54 => ?_) (fun c_54 => ?_)
        · rw [hwt, show w32 134 = 134 from rfl] at c_54
          exact out (fun z => by omega)
        · rw [hwt, show w32 134 = 134 from rfl] at c_54
          refine g_aload_n (q := 58) dX6_readSaying_57 rfl rfl ?_
          refine g_getI (q := 61) (kI := 7) fX6_51 (by first | assumption | exact S.at _ rfl) dX6_readSaying_58 rfl rfl ?_
          rw [h7]
          refine g_sipush (q := 64) dX6_readSaying_61 (by decide +kernel) rfl ?_
          refine g_icmp_gt (q := 67) (tg := 155) dX6_readSaying_64 (by decide) rfl (fun c_64 => ?_) (fun c_64 => ?_)
          · rw [hwt, show w32 137 = 137 from rfl] at c_64
            exact out (fun z => by omega)
          · rw [hwt, show w32 137 = 137 from rfl] at c_64
            have hin2 : 134 ≤ tkP K τ ∧ tkP K τ ≤ 137 := by omega
            refine g_aload_n (q := 68) dX6_readSaying_67 rfl rfl ?_
            refine g_getI (q := 71) (kI := 7) fX6_51 (by first | assumption | exact S.at _ rfl) dX6_readSaying_68 rfl rfl ?_
            rw [h7]
            refine s_istore_n_5_3 (q := 72) dX6_readSaying_71 rfl rfl rfl ?_
            refine g_aload_n (q := 73) dX6_readSaying_72 rfl rfl ?_
            refine g_callV (q := 76) lX6_104 mX6_step nX6_step rfl (r_step 0 sh _ S D3) (by first | assumption | exact S.at _ rfl) rfl rfl shLe.rf (rmOk.mk (by omega) (by first | exact shLe.rf | assumption)) (Nat.le_of_ble_eq_true rfl) dX6_readSaying_73 rfl rfl (kN fun c4 hp => ?_)
            obtain ⟨D4, f4⟩ := hp
            have n4 := stepNC n3.1
            refine g_aload_n (q := 77) dX6_readSaying_76 rfl rfl ?_
            refine g_bipush (q := 79) dX6_readSaying_77 (by decide +kernel) rfl ?_
            refine g_callV (q := 82) lX6_113 mX6_takeNumber nX6_takeNumber rfl (r_takeNumber 0 sh _ S D4 (most := 9) (by decide)) (by first | assumption | exact S.at _ rfl) rfl rfl shLe.rf (rmOk.mk (by omega) (by first | exact shLe.rf | assumption)) (Nat.le_of_ble_eq_true rfl) dX6_readSaying_79 rfl rfl (kI fun v c5 hp => ?_)
            obtain ⟨hv, D5, f5⟩ := hp
            have n5 := (numNC (K := K) (Pl := Pl) (most := 9) n4.1).1
            have M5 := (M3.fr hbb f4).fr hbb f5
            have hin5 := D5.into
            have L5 := D5.L
            obtain ⟨-, -, -, -, -, -, k2, k3, -⟩ := bkAt_b S L5 hbb
            have step3 : syL T K Pl (a.2.1 3) (T - (i + 1)).toNat ((numP T K Pl 9 (stepP T τ)).2, syT (tkP K τ) (a.2.1 3) (numP T K Pl 9 (stepP T τ)).1 tt, syH (tkP K τ) (a.2.1 3) (numP T K Pl 9 (stepP T τ)).1 hh) = syL T K Pl (a.2.1 3) T.toNat (stepP T a.1, a.2.2.2) := by
              rw [← e3, show (T - i).toNat = (T - (i + 1)).toNat + 1 by omega]
              show _ = (if 134 ≤ tkP K τ ∧ tkP K τ ≤ 137 then _ else _)
              rw [if_pos hin2]
            have tone : ∀ u, (syT (tkP K τ) (a.2.1 3) v tt = upP tt (a.2.1 3) u ∧ syH (tkP K τ) (a.2.1 3) v hh = hh) → G (mkK YX6_readSaying (d + 2) sh sh Po) 121 [some (.inr (.inr 64)), some (.inl (a.2.1 3)), some (.inl i), some (.inl (tkP K τ)), some (.inl v)] [.inl u, .inl (a.2.1 3), .inr (.inr (b + 2))] sh c5 := by
              intro u hu
              refine g_iastore (q := 122) (by first | assumption | exact S.at _ rfl) (by omega) (by omega) (by omega) dX6_readSaying_121 rfl ?_
              refine g_goto (q := 149) dX6_readSaying_122 (by decide) ?_
              refine s_iinc_5_2 (q := 152) dX6_readSaying_149 rfl rfl rfl ?_
              refine g_goto (q := 39) dX6_readSaying_152 (by decide) ?_
              have fw : rbF b c5 (wr c5 (b + 2) (a.2.1 3) u) := ⟨fun j _ _ _ _ _ => wr_na (by omega), fun j hj => wr_na (by omega), eqBut.rf.wr (by simp)⟩
              refine kk _ _ _ (by simp [lsSub]) ⟨by omega, D5.keep fw (fun j _ => wr_na (by omega)) (wr_na (by omega)) (by funext j; exact wr_na (by omega)), (n3.tr n4).tr n5, ((f3.tr f4.rb).tr f5.rb).tr fw, ?_, step3⟩
              rw [← hv, hu.1, hu.2]
              refine ⟨fun k k0 k1 k6 => by rw [wr_na (by omega)]; exact M5.1 k k0 k1 k6, fun m m0 m1 => by rw [wr_na (by omega)]; exact M5.2.1 m m0 m1, fun s s0 s1 => ?_⟩
              dsimp only
              rw [wr_na (x := b + 3) (by omega)]
              refine ⟨?_, (M5.2.2 s s0 s1).2⟩
              by_cases hss : s = a.2.1 3
              · rw [hss, wr_eq, upP_eq]
              · rw [wr_nk hss, upP_ne hss]; exact (M5.2.2 s s0 s1).1
            have heat : ∀ u, (syT (tkP K τ) (a.2.1 3) v tt = tt ∧ syH (tkP K τ) (a.2.1 3) v hh = upP hh (a.2.1 3) u) → G (mkK YX6_readSaying (d + 2) sh sh Po) 148 [some (.inr (.inr 64)), some (.inl (a.2.1 3)), some (.inl i), some (.inl (tkP K τ)), some (.inl v)] [.inl u, .inl (a.2.1 3), .inr (.inr (b + 3))] sh c5 := by
              intro u hu
              refine g_iastore (q := 149) (by first | assumption | exact S.at _ rfl) (by omega) (by omega) (by omega) dX6_readSaying_148 rfl ?_
              refine s_iinc_5_2 (q := 152) dX6_readSaying_149 rfl rfl rfl ?_
              refine g_goto (q := 39) dX6_readSaying_152 (by decide) ?_
              have fw : rbF b c5 (wr c5 (b + 3) (a.2.1 3) u) := ⟨fun j _ _ _ _ _ => wr_na (by omega), fun j hj => wr_na (by omega), eqBut.rf.wr (by simp)⟩
              refine kk _ _ _ (by simp [lsSub]) ⟨by omega, D5.keep fw (fun j _ => wr_na (by omega)) (wr_na (by omega)) (by funext j; exact wr_na (by omega)), (n3.tr n4).tr n5, ((f3.tr f4.rb).tr f5.rb).tr fw, ?_, step3⟩
              rw [← hv, hu.1, hu.2]
              refine ⟨fun k k0 k1 k6 => by rw [wr_na (by omega)]; exact M5.1 k k0 k1 k6, fun m m0 m1 => by rw [wr_na (by omega)]; exact M5.2.1 m m0 m1, fun s s0 s1 => ?_⟩
              dsimp only
              rw [wr_na (x := b + 2) (by omega)]
              refine ⟨(M5.2.2 s s0 s1).1, ?_⟩
              by_cases hss : s = a.2.1 3
              · rw [hss, wr_eq, upP_eq]
              · rw [wr_nk hss, upP_ne hss]; exact (M5.2.2 s s0 s1).2
            have toneIn : (tkP K τ = 134 ∨ tkP K τ = 135) → G (mkK YX6_readSaying (d + 2) sh sh Po) 98 [some (.inr (.inr 64)), some (.inl (a.2.1 3)), some (.inl i), some (.inl (tkP K τ)), some (.inl v)] [] sh c5 := by
              intro h
              refine g_aload_n (q := 99) dX6_readSaying_98 rfl rfl ?_
              refine g_getO (q := 102) (kI := 9) fX6_26 (by first | assumption | exact S.at _ rfl) dX6_readSaying_99 rfl rfl (by first | exact hin5 | exact k2) ?_
              refine g_getA (q := 105) (kI := 12) fX6_165 (by first | assumption | exact S.at _ rfl) dX6_readSaying_102 rfl rfl (by first | exact hin5 | exact k2) ?_
              refine g_iload_n (q := 106) dX6_readSaying_105 rfl rfl ?_
              refine g_iload_n (q := 107) dX6_readSaying_106 rfl rfl ?_
              refine g_sipush (q := 110) dX6_readSaying_107 (by decide +kernel) rfl ?_
              refine g_icmp_ne (q := 113) (tg := 118) dX6_readSaying_110 (by decide) rfl (fun c_110 => ?_) (fun c_110 => ?_)
              · rw [hwt, show w32 134 = 134 from rfl] at c_110
                refine g_iload (q := 120) dX6_readSaying_118 rfl rfl ?_
                refine g_ineg (q := 121) dX6_readSaying_120 rfl ?_
                refine tone _ ?_
                unfold syT syH
                rw [if_neg c_110, if_pos (by omega), if_neg (by omega), if_neg (by omega)]
                exact ⟨rfl, rfl⟩
              · rw [hwt, show w32 134 = 134 from rfl] at c_110
                refine g_iload (q := 115) dX6_readSaying_113 rfl rfl ?_
                refine g_goto (q := 121) dX6_readSaying_115 (by decide) ?_
                refine tone _ ?_
                unfold syT syH
                rw [if_pos (by omega), if_neg (by omega), if_neg (by omega)]
                exact ⟨rfl, rfl⟩
            refine s_istore_5_4 (q := 84) dX6_readSaying_82 rfl rfl rfl ?_
            refine g_iload_n (q := 85) dX6_readSaying_84 rfl rfl ?_
            refine g_sipush (q := 88) dX6_readSaying_85 (by decide +kernel) rfl ?_
            refine g_icmp_eq (q := 91) (tg := 98) dX6_readSaying_88 (by decide) rfl (fun c_88 => ?_) (fun c_88 => ?_)
            · rw [hwt, show w32 134 = 134 from rfl] at c_88
              exact toneIn (Or.inl c_88)
            · rw [hwt, show w32 134 = 134 from rfl] at c_88
              refine g_iload_n (q := 92) dX6_readSaying_91 rfl rfl ?_
              refine g_sipush (q := 95) dX6_readSaying_92 (by decide +kernel) rfl ?_
              refine g_icmp_ne (q := 98) (tg := 125) dX6_readSaying_95 (by decide) rfl (fun c_95 => ?_) (fun c_95 => ?_)
              · rw [hwt, show w32 135 = 135 from rfl] at c_95
                refine g_aload_n (q := 126) dX6_readSaying_125 rfl rfl ?_
                refine g_getO (q := 129) (kI := 9) fX6_26 (by first | assumption | exact S.at _ rfl) dX6_readSaying_126 rfl rfl (by first | exact hin5 | exact k3) ?_
                refine g_getA (q := 132) (kI := 13) fX6_168 (by first | assumption | exact S.at _ rfl) dX6_readSaying_129 rfl rfl (by first | exact hin5 | exact k3) ?_
                refine g_iload_n (q := 133) dX6_readSaying_132 rfl rfl ?_
                refine g_iload_n (q := 134) dX6_readSaying_133 rfl rfl ?_
                refine g_sipush (q := 137) dX6_readSaying_134 (by decide +kernel) rfl ?_
                refine g_icmp_ne (q := 140) (tg := 145) dX6_readSaying_137 (by decide) rfl (fun c_137 => ?_) (fun c_137 => ?_)
                · rw [hwt, show w32 136 = 136 from rfl] at c_137
                  refine g_iload (q := 147) dX6_readSaying_145 rfl rfl ?_
                  refine g_ineg (q := 148) dX6_readSaying_147 rfl ?_
                  refine heat _ ?_
                  unfold syT syH
                  rw [if_neg c_88, if_neg c_95, if_neg c_137, if_pos (by omega)]
                  exact ⟨rfl, rfl⟩
                · rw [hwt, show w32 136 = 136 from rfl] at c_137
                  refine g_iload (q := 142) dX6_readSaying_140 rfl rfl ?_
                  refine g_goto (q := 148) dX6_readSaying_142 (by decide) ?_
                  refine heat _ ?_
                  unfold syT syH
                  rw [if_neg c_88, if_neg c_95, if_pos (by omega)]
                  exact ⟨rfl, rfl⟩
              · rw [hwt, show w32 135 = 135 from rfl] at c_95
                exact toneIn (Or.inr (by omega))
    · rintro ⟨τ, tt, hh⟩ c ⟨i0, D3, n3, f3, M3, e3⟩
      dsimp only at D3 n3 M3
      have hT := hkd.1
      have hto := D3.toks
      have L := D3.L
      rw [show (T - T).toNat = 0 by omega] at e3
      refine g_iload_n (q := 40) dX6_readSaying_39 rfl rfl ?_
      refine g_aload_n (q := 41) dX6_readSaying_40 rfl rfl ?_
      refine g_getI (q := 44) (kI := 5) fX6_57 (by first | assumption | exact S.at _ rfl) dX6_readSaying_41 rfl rfl ?_
      rw [hto]
      refine g_icmp_ge (q := 47) (tg := 155) dX6_readSaying_44 (by decide) rfl (fun c_44 => ?_) (fun c_44 => ?_)
      · refine g_return dX6_readSaying_155 rfl ?_
        rw [← hPo, ← e3]
        exact ⟨rfl, ⟨D3, fun _ => M3⟩, f3⟩
      · exact absurd c_44 (Int.lt_irrefl _)
  · rw [w32_id (x := a.2.1 3) (by omega) (by omega), show w32 8 = 8 from rfl] at c_11
    rw [if_pos (by omega)] at hPo
    refine g_aload_n (q := 15) dX6_readSaying_14 rfl rfl ?_
    refine g_iconst (q := 16) dX6_readSaying_15 rfl ?_
    refine g_callV (q := 19) lX6_107 mX6_fail nX6_fail rfl (r_fail 0 sh _ S D (k := 4) (by decide)) (by first | assumption | exact S.at _ rfl) rfl rfl shLe.rf (rmOk.mk (by omega) (by first | exact shLe.rf | assumption)) (Nat.le_of_ble_eq_true rfl) dX6_readSaying_16 rfl rfl (kN fun c1 hp => ?_)
    refine g_return dX6_readSaying_19 rfl ?_
    rw [← hPo]
    exact ⟨rfl, ⟨hp.1, fun z => absurd z (failP_w (by decide))⟩, hp.2.rb⟩
theorem r_readLine (S : SH sh) (R : RB ct b T K Pl a) (hI : bkRi T a) (hb : ∀ i, 0 ≤ i → i < T → K i < 2000) (hw : a.1.2.1 = 0) : Mt YX6_readLine (d + 27) [.inr (.inr 64)] sh sh ct (pN fun c => RB c b T K Pl (lnEnd T K Pl (lineB T K Pl a)) ∧ rbF b ct c) := by
  have D := R.1
  have L := D.L
  have hbb := D.1.2.1
  have hg := hI.1
  have hM := R.2 hw
  have hkd := D.kd
  have hin := D.into
  have htb := D.tb
  have h7 := D.2.2.1
  have hwt : w32 (tkP K a.1) = tkP K a.1 := w32_id (by omega) (by omega)
  have hcl := D.2.2.2.2.2.2 hw
  obtain ⟨s0, s1, s2, s3, s4, l1, l2, l3, l4⟩ := bkAt_b S L hbb
  have hgl := (lineQ (Pl := Pl) hkd hb hI).1.1
  generalize hPo : (pN fun c => RB c b T K Pl (lnEnd T K Pl (lineB T K Pl a)) ∧ rbF b ct c) = Po
  have tail : ∀ c1, RB c1 b T K Pl (lineB T K Pl a) → rbF b ct c1 → G (mkK YX6_readLine (d + 27) sh sh Po) 171 [some (.inr (.inr 64))] [] sh c1 := by
    intro c1 R1 f1
    have D1 := R1.1
    refine g_aload_n (q := 172) dX6_readLine_171 rfl rfl ?_
    refine g_callV (q := 175) lX6_122 mX6_endLine nX6_endLine rfl (r_endLine 0 sh _ S R1 hgl) (by first | assumption | exact S.at _ rfl) rfl rfl shLe.rf (rmOk.mk (by omega) (by first | exact shLe.rf | assumption)) (Nat.le_of_ble_eq_true rfl) dX6_readLine_172 rfl rfl (kN fun c2 hp => ?_)
    refine g_return dX6_readLine_175 rfl ?_
    rw [← hPo]
    exact ⟨rfl, hp.1, f1.tr hp.2⟩
  have bad : lineB T K Pl a = (failP K Pl 2 a.1, a.2) → G (mkK YX6_readLine (d + 27) sh sh Po) 166 [some (.inr (.inr 64))] [] sh ct := by
    intro he
    refine g_aload_n (q := 167) dX6_readLine_166 rfl rfl ?_
    refine g_iconst (q := 168) dX6_readLine_167 rfl ?_
    refine g_callV (q := 171) lX6_107 mX6_fail nX6_fail rfl (r_fail 0 sh _ S D (k := 2) (by decide)) (by first | assumption | exact S.at _ rfl) rfl rfl shLe.rf (rmOk.mk (by omega) (by first | exact shLe.rf | assumption)) (Nat.le_of_ble_eq_true rfl) dX6_readLine_168 rfl rfl (kN fun c1 hp => ?_)
    refine tail c1 ?_ hp.2.rb
    rw [he]
    exact ⟨hp.1, fun z => absurd z (failP_w (by decide))⟩
  refine Mt.of rfl (Nat.le_of_ble_eq_true rfl) ?_
  show G _ 0 [some (.inr (.inr 64))] [] sh ct
  refine g_aload_n (q := 1) dX6_readLine_0 rfl rfl ?_
  refine g_getI (q := 4) (kI := 7) fX6_51 (by first | assumption | exact S.at _ rfl) dX6_readLine_1 rfl rfl ?_
  rw [h7]
  by_cases t1 : tkP K a.1 = 131
  · refine g_tabIn (q := 60) dX6_readLine_4 131 (by rw [hwt, t1]) (by decide) (by decide) rfl (by decide) ?_
    refine g_aload_n (q := 61) dX6_readLine_60 rfl rfl ?_
    refine g_callV (q := 64) lX6_125 mX6_readMember nX6_readMember rfl (r_readMember 0 sh _ S R hI t1) (by first | assumption | exact S.at _ rfl) rfl rfl shLe.rf (rmOk.mk (by omega) (by first | exact shLe.rf | assumption)) (Nat.le_of_ble_eq_true rfl) dX6_readLine_61 rfl rfl (kN fun c1 hp => ?_)
    refine g_goto (q := 171) dX6_readLine_64 (by decide) ?_
    exact tail c1 hp.1 hp.2
  · by_cases t2 : tkP K a.1 = 133
    · refine g_tabIn (q := 67) dX6_readLine_4 133 (by rw [hwt, t2]) (by decide) (by decide) rfl (by decide) ?_
      refine g_aload_n (q := 68) dX6_readLine_67 rfl rfl ?_
      refine g_callV (q := 71) lX6_128 mX6_readSaying nX6_readSaying rfl (r_readSaying 0 sh _ S R hI t2) (by first | assumption | exact S.at _ rfl) rfl rfl shLe.rf (rmOk.mk (by omega) (by first | exact shLe.rf | assumption)) (Nat.le_of_ble_eq_true rfl) dX6_readLine_68 rfl rfl (kN fun c1 hp => ?_)
      refine g_goto (q := 171) dX6_readLine_71 (by decide) ?_
      exact tail c1 hp.1 hp.2
    · by_cases t3 : tkP K a.1 = 138
      · refine g_tabIn (q := 74) dX6_readLine_4 138 (by rw [hwt, t3]) (by decide) (by decide) rfl (by decide) ?_
        have hE : lineB T K Pl a = (lawP T K Pl true a.1, upP (upP a.2.1 7 (lenP a.1)) 8 (lenP (lawP T K Pl true a.1)), a.2.2) := by
          unfold lineB
          rw [if_neg t1, if_neg t2, if_pos t3]
        refine g_aload_n (q := 75) dX6_readLine_74 rfl rfl ?_
        refine g_getO (q := 78) (kI := 9) fX6_26 (by first | assumption | exact S.at _ rfl) dX6_readLine_75 rfl rfl hin ?_
        refine g_aload_n (q := 79) dX6_readLine_78 rfl rfl ?_
        refine g_getO (q := 82) (kI := 9) fX6_26 (by first | assumption | exact S.at _ rfl) dX6_readLine_79 rfl rfl hin ?_
        refine g_getI (q := 85) (kI := 6) fX6_131 (by first | assumption | exact S.at _ rfl) dX6_readLine_82 rfl rfl ?_
        obtain ⟨R1, f1⟩ := RB.wn (n := a.2.1) (β := a.2.2) (σ := a.1) (k := 7) (v := ct b 6) (v2 := lenP a.1) R (by decide) (by decide) (by decide) (fun _ => hcl.1)
        refine g_putI (q := 88) (kI := 7) fX6_134 (by first | assumption | exact S.at _ rfl) dX6_readLine_85 rfl rfl ?_
        refine g_aload_n (q := 89) dX6_readLine_88 rfl rfl ?_
        refine g_iconst (q := 90) dX6_readLine_89 rfl ?_
        generalize wr ct b 7 (ct b 6) = c1 at R1 f1
        have D1 := R1.1
        refine g_callV (q := 93) lX6_137 mX6_readLaw nX6_readLaw rfl (r_readLaw d sh _ (om := true) S rfl hb D1 hg) (by first | assumption | exact S.at _ rfl) rfl rfl shLe.rf (rmOk.mk (by omega) (by first | exact shLe.rf | assumption)) (Nat.le_of_ble_eq_true rfl) dX6_readLine_90 rfl rfl (kN fun c2 hp => ?_)
        obtain ⟨D2, e0, e1, e2, e3, f2⟩ := hp
        have hin2 := D2.into
        have L2 := D2.L
        have R2 : RB c2 b T K Pl (lawP T K Pl true a.1, upP a.2.1 7 (lenP a.1), a.2.2) := by
          refine ⟨D2, fun _ => ?_⟩
          obtain ⟨m1, m2, m3⟩ := R1.2 hw
          exact ⟨fun k k0 k1 k6 => by rw [e0 k k6]; exact m1 k k0 k1 k6, by rw [e1]; exact m2, by rw [e2, e3]; exact m3⟩
        obtain ⟨R3, f3⟩ := RB.wn (k := 8) (v := c2 b 6) (v2 := lenP (lawP T K Pl true a.1)) R2 (by decide) (by decide) (by decide) (fun z => (D2.2.2.2.2.2.2 z).1)
        refine g_aload_n (q := 94) dX6_readLine_93 rfl rfl ?_
        refine g_getO (q := 97) (kI := 9) fX6_26 (by first | assumption | exact S.at _ rfl) dX6_readLine_94 rfl rfl hin2 ?_
        refine g_aload_n (q := 98) dX6_readLine_97 rfl rfl ?_
        refine g_getO (q := 101) (kI := 9) fX6_26 (by first | assumption | exact S.at _ rfl) dX6_readLine_98 rfl rfl hin2 ?_
        refine g_getI (q := 104) (kI := 6) fX6_131 (by first | assumption | exact S.at _ rfl) dX6_readLine_101 rfl rfl ?_
        refine g_putI (q := 107) (kI := 8) fX6_141 (by first | assumption | exact S.at _ rfl) dX6_readLine_104 rfl rfl ?_
        refine g_goto (q := 171) dX6_readLine_107 (by decide) ?_
        refine tail _ ?_ ((f1.tr f2).tr f3)
        rw [hE]
        exact R3
      · by_cases t4 : tkP K a.1 = 139
        · refine g_tabIn (q := 110) dX6_readLine_4 139 (by rw [hwt, t4]) (by decide) (by decide) rfl (by decide) ?_
          have hE : lineB T K Pl a = (lawP T K Pl false a.1, upP (upP a.2.1 9 (lenP a.1)) 10 (lenP (lawP T K Pl false a.1)), a.2.2) := by
            unfold lineB
            rw [if_neg t1, if_neg t2, if_neg t3, if_pos t4]
          refine g_aload_n (q := 111) dX6_readLine_110 rfl rfl ?_
          refine g_getO (q := 114) (kI := 9) fX6_26 (by first | assumption | exact S.at _ rfl) dX6_readLine_111 rfl rfl hin ?_
          refine g_aload_n (q := 115) dX6_readLine_114 rfl rfl ?_
          refine g_getO (q := 118) (kI := 9) fX6_26 (by first | assumption | exact S.at _ rfl) dX6_readLine_115 rfl rfl hin ?_
          refine g_getI (q := 121) (kI := 6) fX6_131 (by first | assumption | exact S.at _ rfl) dX6_readLine_118 rfl rfl ?_
          obtain ⟨R1, f1⟩ := RB.wn (n := a.2.1) (β := a.2.2) (σ := a.1) (k := 9) (v := ct b 6) (v2 := lenP a.1) R (by decide) (by decide) (by decide) (fun _ => hcl.1)
          refine g_putI (q := 124) (kI := 9) fX6_144 (by first | assumption | exact S.at _ rfl) dX6_readLine_121 rfl rfl ?_
          refine g_aload_n (q := 125) dX6_readLine_124 rfl rfl ?_
          refine g_iconst (q := 126) dX6_readLine_125 rfl ?_
          generalize wr ct b 9 (ct b 6) = c1 at R1 f1
          have D1 := R1.1
          refine g_callV (q := 129) lX6_137 mX6_readLaw nX6_readLaw rfl (r_readLaw d sh _ (om := false) S rfl hb D1 hg) (by first | assumption | exact S.at _ rfl) rfl rfl shLe.rf (rmOk.mk (by omega) (by first | exact shLe.rf | assumption)) (Nat.le_of_ble_eq_true rfl) dX6_readLine_126 rfl rfl (kN fun c2 hp => ?_)
          obtain ⟨D2, e0, e1, e2, e3, f2⟩ := hp
          have hin2 := D2.into
          have L2 := D2.L
          have R2 : RB c2 b T K Pl (lawP T K Pl false a.1, upP a.2.1 9 (lenP a.1), a.2.2) := by
            refine ⟨D2, fun _ => ?_⟩
            obtain ⟨m1, m2, m3⟩ := R1.2 hw
            exact ⟨fun k k0 k1 k6 => by rw [e0 k k6]; exact m1 k k0 k1 k6, by rw [e1]; exact m2, by rw [e2, e3]; exact m3⟩
          obtain ⟨R3, f3⟩ := RB.wn (k := 10) (v := c2 b 6) (v2 := lenP (lawP T K Pl false a.1)) R2 (by decide) (by decide) (by decide) (fun z => (D2.2.2.2.2.2.2 z).1)
          refine g_aload_n (q := 130) dX6_readLine_129 rfl rfl ?_
          refine g_getO (q := 133) (kI := 9) fX6_26 (by first | assumption | exact S.at _ rfl) dX6_readLine_130 rfl rfl hin2 ?_
          refine g_aload_n (q := 134) dX6_readLine_133 rfl rfl ?_
          refine g_getO (q := 137) (kI := 9) fX6_26 (by first | assumption | exact S.at _ rfl) dX6_readLine_134 rfl rfl hin2 ?_
          refine g_getI (q := 140) (kI := 6) fX6_131 (by first | assumption | exact S.at _ rfl) dX6_readLine_137 rfl rfl ?_
          refine g_putI (q := 143) (kI := 10) fX6_147 (by first | assumption | exact S.at _ rfl) dX6_readLine_140 rfl rfl ?_
          refine g_goto (q := 171) dX6_readLine_143 (by decide) ?_
          refine tail _ ?_ ((f1.tr f2).tr f3)
          rw [hE]
          exact R3
        · by_cases t5 : tkP K a.1 = 140
          · refine g_tabIn (q := 146) dX6_readLine_4 140 (by rw [hwt, t5]) (by decide) (by decide) rfl (by decide) ?_
            have hE : lineB T K Pl a = ((numP T K Pl 10 (stepP T a.1)).2, upP a.2.1 4 (numP T K Pl 10 (stepP T a.1)).1, a.2.2) := by
              unfold lineB
              rw [if_neg t1, if_neg t2, if_neg t3, if_neg t4, if_pos t5]
            refine g_aload_n (q := 147) dX6_readLine_146 rfl rfl ?_
            refine g_callV (q := 150) lX6_104 mX6_step nX6_step rfl (r_step 0 sh _ S D) (by first | assumption | exact S.at _ rfl) rfl rfl shLe.rf (rmOk.mk (by omega) (by first | exact shLe.rf | assumption)) (Nat.le_of_ble_eq_true rfl) dX6_readLine_147 rfl rfl (kN fun c1 hp => ?_)
            obtain ⟨D1, f1⟩ := hp
            have n1 := stepNC hg
            have R1 := RB.st (β := a.2) R D1 f1 n1.w
            have hin1 := D1.into
            have L1 := D1.L
            refine g_aload_n (q := 151) dX6_readLine_150 rfl rfl ?_
            refine g_getO (q := 154) (kI := 9) fX6_26 (by first | assumption | exact S.at _ rfl) dX6_readLine_151 rfl rfl hin1 ?_
            refine g_aload_n (q := 155) dX6_readLine_154 rfl rfl ?_
            refine g_bipush (q := 157) dX6_readLine_155 (by decide +kernel) rfl ?_
            refine g_callV (q := 160) lX6_113 mX6_takeNumber nX6_takeNumber rfl (r_takeNumber 0 sh _ S D1 (most := 10) (by decide)) (by first | assumption | exact S.at _ rfl) rfl rfl shLe.rf (rmOk.mk (by omega) (by first | exact shLe.rf | assumption)) (Nat.le_of_ble_eq_true rfl) dX6_readLine_157 rfl rfl (kI fun v c2 hp => ?_)
            obtain ⟨hv, D2, f2⟩ := hp
            have n2 := (numNC (K := K) (Pl := Pl) (most := 10) n1.1).1
            have R2 := RB.st R1 D2 f2 n2.w
            obtain ⟨R3, f3⟩ := RB.wn (n := a.2.1) (β := a.2.2) (k := 4) (v := v) (v2 := (numP T K Pl 10 (stepP T a.1)).1) R2 (by decide) (by decide) (by decide) (fun _ => hv)
            refine g_putI (q := 163) (kI := 4) fX6_150 (by first | assumption | exact S.at _ rfl) dX6_readLine_160 rfl rfl ?_
            refine g_goto (q := 171) dX6_readLine_163 (by decide) ?_
            refine tail _ ?_ ((f1.rb.tr f2.rb).tr f3)
            rw [hE]
            exact R3
          · have hE : lineB T K Pl a = (failP K Pl 2 a.1, a.2) := by
              unfold lineB
              rw [if_neg t1, if_neg t2, if_neg t3, if_neg t4, if_neg t5]
            by_cases ho : tkP K a.1 < 131 ∨ 140 < tkP K a.1
            · refine g_tabOut (q := 166) dX6_readLine_4 (by rw [hwt]; exact ho) (by decide) (bad hE)
            · have hv : tkP K a.1 = 132 ∨ tkP K a.1 = 134 ∨ tkP K a.1 = 135 ∨ tkP K a.1 = 136 ∨ tkP K a.1 = 137 := by omega
              rcases hv with hv | hv | hv | hv | hv
              · exact g_tabIn (q := 166) dX6_readLine_4 132 (by rw [hwt, hv]) (by decide) (by decide) rfl (by decide) (bad hE)
              · exact g_tabIn (q := 166) dX6_readLine_4 134 (by rw [hwt, hv]) (by decide) (by decide) rfl (by decide) (bad hE)
              · exact g_tabIn (q := 166) dX6_readLine_4 135 (by rw [hwt, hv]) (by decide) (by decide) rfl (by decide) (bad hE)
              · exact g_tabIn (q := 166) dX6_readLine_4 136 (by rw [hwt, hv]) (by decide) (by decide) rfl (by decide) (bad hE)
              · exact g_tabIn (q := 166) dX6_readLine_4 137 (by rw [hwt, hv]) (by decide) (by decide) rfl (by decide) (bad hE)
end
