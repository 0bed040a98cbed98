/-! the reference: numbers, words, codes, what lies within -/
section
variable {ct : mbCt} {f K Pl E : Int → Int} {n T : Int} {σ : PS}
theorem MR.w (M : MR ct f n T K Pl E σ) : ct 92 11 = σ.2.1 := M.2.2.2.2.1.1
theorem MR.wb (M : MR ct f n T K Pl E σ) : 0 ≤ σ.2.1 ∧ σ.2.1 ≤ 4 := M.2.2.2.2.1.2.1
theorem MR.ki (M : MR ct f n T K Pl E σ) : ct 92 9 = kR (K σ.1) := M.2.2.2.1.2.2.1
theorem MR.nu (M : MR ct f n T K Pl E σ) (h : 1000 ≤ K σ.1) : ct 92 10 = K σ.1 - 1000 := M.2.2.2.1.2.2.2 h
theorem MR.kb (M : MR ct f n T K Pl E σ) : 0 ≤ K σ.1 ∧ K σ.1 < 2000 := ⟨(M.kd.1.2.2 σ.1 M.2.2.1.1 M.2.2.1.2).1, M.kd.2 σ.1 M.2.2.1.1 M.2.2.1.2⟩
theorem MR.wz (M : MR ct f n T K Pl E σ) : w32 σ.2.1 = 0 ↔ σ.2.1 = 0 := by
  have := M.wb
  rw [w32_id (x := σ.2.1) (by omega) (by omega)]
end
section
variable (d : Nat) (sh : mbSh) (ct : mbCt) {f K Pl E : Int → Int} {n T x y : Int} {σ : PS}
theorem tw_takes {most : Int} (S : SH sh) (M : MR ct f n T K Pl E σ) (hg : gd T σ) (hm : 0 ≤ most ∧ most < 100) : Mt YX12_takes (d + 6) [.inr (.inr 92), .inl 0, .inl most] sh sh ct (pI fun r c => ((numP T K Pl most σ).2.2.1 = 0 → r = (numP T K Pl most σ).1) ∧ MR c f n T K Pl E (numP T K Pl most σ).2 ∧ mrF ct c) := by
  have L := M.1
  have hkb := M.kb
  generalize hPo : (pI fun r c => ((numP T K Pl most σ).2.2.1 = 0 → r = (numP T K Pl most σ).1) ∧ MR c f n T K Pl E (numP T K Pl most σ).2 ∧ mrF ct c) = Po
  have tail : ∀ (c : mbCt) (τ : PS), MR c f n T K Pl E τ → mrF ct c → gd T τ → ((¬ τ.2.1 = 0 ∧ (numP T K Pl most σ).2 = τ) ∨ (τ = σ ∧ numP T K Pl most σ = (tkP K σ - 1000, stepP T σ) ∧ 1000 ≤ tkP K σ)) → G (mkK YX12_takes (d + 6) sh sh Po) 37 [some (.inr (.inr 92)), some (.inl 0), some (.inl most), none] [] sh c := by
    intro c τ M1 f1 g1 h
    have L1 := M1.1
    refine g_aload_n (q := 38) dX12_takes_37 rfl rfl ?_
    refine g_getI (q := 41) (kI := 10) fX12_129 (by first | assumption | exact S.at _ rfl) dX12_takes_38 rfl rfl ?_
    refine s_istore_n_4_3 (q := 42) dX12_takes_41 rfl rfl rfl ?_
    refine g_aload_n (q := 43) dX12_takes_42 rfl rfl ?_
    refine g_getI (q := 46) (kI := 11) fX12_134 (by first | assumption | exact S.at _ rfl) dX12_takes_43 rfl rfl ?_
    rw [M1.w]
    refine g_if_ne (q := 49) (tg := 53) dX12_takes_46 (by decide) rfl (fun c_46 => ?_) (fun c_46 => ?_)
    · have hw : ¬ τ.2.1 = 0 := fun z => c_46 (M1.wz.mpr z)
      have h2 : (numP T K Pl most σ).2 = τ := by
        rcases h with ⟨-, h⟩ | ⟨h1, -, h3⟩
        · exact h
        · exact absurd (tk_w (K := K) (σ := σ) (by omega)) (by rw [← h1]; exact hw)
      refine g_iload_n (q := 54) dX12_takes_53 rfl rfl ?_
      refine g_ireturn dX12_takes_54 rfl ?_
      rw [← hPo, h2]
      exact ⟨_, rfl, fun z => absurd z hw, M1, f1⟩
    · have hw : τ.2.1 = 0 := M1.wz.mp c_46
      rcases h with ⟨h, -⟩ | ⟨h1, h2, h3⟩
      · exact absurd hw h
      · subst h1
        have hk := tk_go (K := K) hw
        have hn := M1.nu (by omega)
        rw [hn]
        refine g_aload_n (q := 50) dX12_takes_49 rfl rfl ?_
        refine g_callV (q := 53) lX12_143 mX12_next nX12_next rfl (tw_nextM d sh _ S M1 g1 (by omega) (by omega) (by omega)) (by first | assumption | exact S.at _ rfl) rfl rfl shLe.rf (rmOk.mk (by omega) (by first | exact shLe.rf | assumption)) (Nat.le_of_ble_eq_true rfl) dX12_takes_50 rfl rfl (kN fun c2 hq => ?_)
        refine g_iload_n (q := 54) dX12_takes_53 rfl rfl ?_
        refine g_ireturn dX12_takes_54 rfl ?_
        rw [← hPo, h2]
        exact ⟨_, rfl, fun _ => by rw [hk], hq.1, f1.tr hq.2⟩
  refine Mt.of rfl (Nat.le_of_ble_eq_true rfl) ?_
  show G _ 0 [some (.inr (.inr 92)), some (.inl 0), some (.inl most), none] [] sh ct
  refine g_aload_n (q := 1) dX12_takes_0 rfl rfl ?_
  refine g_bipush (q := 3) dX12_takes_1 (by decide +kernel) rfl ?_
  refine g_callV (q := 6) lX12_140 mX12_is nX12_is rfl (tw_isD 0 sh _ S M) (by first | assumption | exact S.at _ rfl) rfl rfl shLe.rf (rmOk.mk (by omega) (by first | exact shLe.rf | assumption)) (Nat.le_of_ble_eq_true rfl) dX12_takes_3 rfl rfl (kI fun r_ c_ hp => ?_)
  obtain ⟨hr, hq⟩ := hp
  replace hr := hr.symm
  replace hq := hq.symm
  subst hr hq
  refine g_if_ne (q := 9) (tg := 17) dX12_takes_6 (by decide) rfl (fun c_6 => ?_) (fun c_6 => ?_)
  · have h := wbn.mp c_6
    have hw := tk_w (K := K) (σ := σ) (by omega)
    have hk := tk_go (K := K) hw
    have hn := M.nu (by omega)
    refine g_aload_n (q := 18) dX12_takes_17 rfl rfl ?_
    refine g_getI (q := 21) (kI := 10) fX12_129 (by first | assumption | exact S.at _ rfl) dX12_takes_18 rfl rfl ?_
    rw [hn]
    refine g_i2l (q := 22) dX12_takes_21 rfl ?_
    refine g_iload_n (q := 23) dX12_takes_22 rfl rfl ?_
    refine g_i2l (q := 24) dX12_takes_23 rfl ?_
    refine g_iload_n (q := 25) dX12_takes_24 rfl rfl ?_
    refine g_i2l (q := 26) dX12_takes_25 rfl ?_
    refine g_callS (q := 29) lX12_150 mX12_within sX12_within rfl (tw_within 0 sh _) shLe.rf (rmOk.mk (by omega) (by first | exact shLe.rf | assumption)) (Nat.le_of_ble_eq_true rfl) dX12_takes_26 rfl rfl (kI fun r_ c_ hp => ?_)
    obtain ⟨hr, hq⟩ := hp
    replace hr := hr.symm
    replace hq := hq.symm
    subst hr hq
    refine g_if_ne (q := 32) (tg := 37) dX12_takes_29 (by decide) rfl (fun c_29 => ?_) (fun c_29 => ?_)
    · have h29 := wbn.mp c_29
      unfold w64 w32 at h29
      refine tail _ σ M mrF.rf hg (Or.inr ⟨rfl, ?_, h⟩)
      unfold numP
      rw [if_neg (by omega), if_neg (by omega)]
    · have h29 := wb0.mp c_29
      unfold w64 w32 at h29
      refine g_aload_n (q := 33) dX12_takes_32 rfl rfl ?_
      refine g_iconst (q := 34) dX12_takes_33 rfl ?_
      refine g_callV (q := 37) lX12_146 mX12_fails nX12_fails rfl (tw_fails 0 sh _ S M (k := 3) (by decide)) (by first | assumption | exact S.at _ rfl) rfl rfl shLe.rf (rmOk.mk (by omega) (by first | exact shLe.rf | assumption)) (Nat.le_of_ble_eq_true rfl) dX12_takes_34 rfl rfl (kN fun c2 hq => ?_)
      refine tail _ _ hq.1 hq.2 (failP_gd (by decide) hg).1 (Or.inl ⟨failP_w (by decide), ?_⟩)
      unfold numP
      rw [if_neg (by omega), if_pos (by omega)]
  · have h := wb0.mp c_6
    refine g_aload_n (q := 10) dX12_takes_9 rfl rfl ?_
    refine g_iconst (q := 11) dX12_takes_10 rfl ?_
    refine g_callV (q := 14) lX12_146 mX12_fails nX12_fails rfl (tw_fails 0 sh _ S M (k := 2) (by decide)) (by first | assumption | exact S.at _ rfl) rfl rfl shLe.rf (rmOk.mk (by omega) (by first | exact shLe.rf | assumption)) (Nat.le_of_ble_eq_true rfl) dX12_takes_11 rfl rfl (kN fun c2 hq => ?_)
    refine g_goto (q := 37) dX12_takes_14 (by decide) ?_
    refine tail _ _ hq.1 hq.2 (failP_gd (by decide) hg).1 (Or.inl ⟨failP_w (by decide), ?_⟩)
    unfold numP
    rw [if_pos (by omega)]
def rdg (om : Bool) : Int := if om = true then 0 else 1
theorem rdg_z {om : Bool} : (w32 (rdg om) = 0 → om = true) ∧ (¬ w32 (rdg om) = 0 → om = false) := by cases om <;> decide
theorem tw_wordOf {om : Bool} {k : Int} (S : SH sh) (L : LK ct) (hv : kV k) (ho : ct 92 15 = rdg om) : Mt YX12_wordOf d [.inr (.inr 92), .inl (kR k)] sh sh ct (pI fun r c => ((askC om k = -16 ∧ r = -1) ∨ (askC om k ≠ -16 ∧ r = -1 - askC om k)) ∧ c = ct) := by
  have e1 := kR_iff hv (x := 1) (y := 129) (by decide)
  have e2 := kR_iff hv (x := 2) (y := 130) (by decide)
  have e3 := kR_iff hv (x := 13) (y := 144) (by decide)
  have e4 := kR_iff hv (x := 14) (y := 145) (by decide)
  have e5 := kR_iff hv (x := 4) (y := 132) (by decide)
  have e6 := kR_iff hv (x := 5) (y := 133) (by decide)
  have hb := (kR_23 hv).2
  generalize kR k = x at e1 e2 e3 e4 e5 e6 hb
  have wt : w32 x = x := w32_id (by omega) (by omega)
  generalize hPo : (pI fun r c => ((askC om k = -16 ∧ r = -1) ∨ (askC om k ≠ -16 ∧ r = -1 - askC om k)) ∧ c = ct) = Po
  have no : (k ≠ 129 ∧ k ≠ 130 ∧ k ≠ 144 ∧ k ≠ 145 ∧ k ≠ 132 ∧ k ≠ 133) → G (mkK YX12_wordOf d sh sh Po) 117 [some (.inr (.inr 92)), some (.inl x)] [] sh ct := by
    rintro ⟨a1, a2, a3, a4, a5, a6⟩
    refine g_iconst (q := 118) dX12_wordOf_117 rfl ?_
    refine g_ireturn dX12_wordOf_118 rfl ?_
    rw [← hPo]
    refine ⟨_, rfl, Or.inl ⟨?_, rfl⟩, rfl⟩
    unfold askC
    rw [if_neg a1, if_neg a2, if_neg a3, if_neg (fun z => a4 z.1), if_neg (fun z => a5 z.1), if_neg (fun z => a6 z.1)]
  refine Mt.of rfl (Nat.le_of_ble_eq_true rfl) ?_
  show G _ 0 [some (.inr (.inr 92)), some (.inl x)] [] sh ct
  refine g_iload_n (q := 1) dX12_wordOf_0 rfl rfl ?_
  by_cases h3 : x < 1 ∨ 14 < x
  · refine g_tabOut (q := 117) dX12_wordOf_1 (by rw [wt]; exact h3) (by decide) (no ?_)
    omega
  · have hx : x = 1 ∨ x = 2 ∨ x = 3 ∨ x = 4 ∨ x = 5 ∨ x = 6 ∨ x = 7 ∨ x = 8 ∨ x = 9 ∨ x = 10 ∨ x = 11 ∨ x = 12 ∨ x = 13 ∨ x = 14 := by omega
    rcases hx with hx | hx | hx | hx | hx | hx | hx | hx | hx | hx | hx | hx | hx | hx
    · refine g_tabIn (q := 72) dX12_wordOf_1 1 (by rw [wt, hx]) (by decide) (by decide) rfl (by decide) ?_
      have hk : k = 129 := by omega
      subst hk
      refine g_iconst (q := 73) dX12_wordOf_72 rfl ?_
      refine g_ireturn dX12_wordOf_73 rfl ?_
      rw [← hPo]
      exact ⟨_, rfl, Or.inr ⟨show askC om 129 ≠ -16 from (by unfold askC; simp), show _ = -1 - askC om 129 from (by unfold askC; simp)⟩, rfl⟩
    · refine g_tabIn (q := 74) dX12_wordOf_1 2 (by rw [wt, hx]) (by decide) (by decide) rfl (by decide) ?_
      have hk : k = 130 := by omega
      subst hk
      refine g_iconst (q := 75) dX12_wordOf_74 rfl ?_
      refine g_ireturn dX12_wordOf_75 rfl ?_
      rw [← hPo]
      exact ⟨_, rfl, Or.inr ⟨show askC om 130 ≠ -16 from (by unfold askC; simp), show _ = -1 - askC om 130 from (by unfold askC; simp)⟩, rfl⟩
    · refine g_tabIn (q := 117) dX12_wordOf_1 3 (by rw [wt, hx]) (by decide) (by decide) rfl (by decide) ?_
      exact no (by omega)
    · refine g_tabIn (q := 91) dX12_wordOf_1 4 (by rw [wt, hx]) (by decide) (by decide) rfl (by decide) ?_
      have hk : k = 132 := by omega
      subst hk
      refine g_aload_n (q := 92) dX12_wordOf_91 rfl rfl ?_
      refine g_getI (q := 95) (kI := 15) fX12_154 (by first | assumption | exact S.at _ rfl) dX12_wordOf_92 rfl rfl ?_
      rw [ho]
      refine g_if_ne (q := 98) (tg := 102) dX12_wordOf_95 (by decide) rfl (fun c_95 => ?_) (fun c_95 => ?_)
      · have hom := rdg_z.2 c_95
        subst hom
        refine g_iconst (q := 103) dX12_wordOf_102 rfl ?_
        refine g_ireturn dX12_wordOf_103 rfl ?_
        rw [← hPo]
        exact ⟨_, rfl, Or.inl ⟨rfl, rfl⟩, rfl⟩
      · have hom := rdg_z.1 c_95
        subst hom
        refine g_iconst (q := 99) dX12_wordOf_98 rfl ?_
        refine g_goto (q := 103) dX12_wordOf_99 (by decide) ?_
        refine g_ireturn dX12_wordOf_103 rfl ?_
        rw [← hPo]
        exact ⟨_, rfl, Or.inr ⟨by decide, rfl⟩, rfl⟩
    · refine g_tabIn (q := 104) dX12_wordOf_1 5 (by rw [wt, hx]) (by decide) (by decide) rfl (by decide) ?_
      have hk : k = 133 := by omega
      subst hk
      refine g_aload_n (q := 105) dX12_wordOf_104 rfl rfl ?_
      refine g_getI (q := 108) (kI := 15) fX12_154 (by first | assumption | exact S.at _ rfl) dX12_wordOf_105 rfl rfl ?_
      rw [ho]
      refine g_if_ne (q := 111) (tg := 115) dX12_wordOf_108 (by decide) rfl (fun c_108 => ?_) (fun c_108 => ?_)
      · have hom := rdg_z.2 c_108
        subst hom
        refine g_iconst (q := 116) dX12_wordOf_115 rfl ?_
        refine g_ireturn dX12_wordOf_116 rfl ?_
        rw [← hPo]
        exact ⟨_, rfl, Or.inl ⟨rfl, rfl⟩, rfl⟩
      · have hom := rdg_z.1 c_108
        subst hom
        refine g_iconst (q := 112) dX12_wordOf_111 rfl ?_
        refine g_goto (q := 116) dX12_wordOf_112 (by decide) ?_
        refine g_ireturn dX12_wordOf_116 rfl ?_
        rw [← hPo]
        exact ⟨_, rfl, Or.inr ⟨by decide, rfl⟩, rfl⟩
    · refine g_tabIn (q := 117) dX12_wordOf_1 6 (by rw [wt, hx]) (by decide) (by decide) rfl (by decide) ?_
      exact no (by omega)
    · refine g_tabIn (q := 117) dX12_wordOf_1 7 (by rw [wt, hx]) (by decide) (by decide) rfl (by decide) ?_
      exact no (by omega)
    · refine g_tabIn (q := 117) dX12_wordOf_1 8 (by rw [wt, hx]) (by decide) (by decide) rfl (by decide) ?_
      exact no (by omega)
    · refine g_tabIn (q := 117) dX12_wordOf_1 9 (by rw [wt, hx]) (by decide) (by decide) rfl (by decide) ?_
      exact no (by omega)
    · refine g_tabIn (q := 117) dX12_wordOf_1 10 (by rw [wt, hx]) (by decide) (by decide) rfl (by decide) ?_
      exact no (by omega)
    · refine g_tabIn (q := 117) dX12_wordOf_1 11 (by rw [wt, hx]) (by decide) (by decide) rfl (by decide) ?_
      exact no (by omega)
    · refine g_tabIn (q := 117) dX12_wordOf_1 12 (by rw [wt, hx]) (by decide) (by decide) rfl (by decide) ?_
      exact no (by omega)
    · refine g_tabIn (q := 76) dX12_wordOf_1 13 (by rw [wt, hx]) (by decide) (by decide) rfl (by decide) ?_
      have hk : k = 144 := by omega
      subst hk
      refine g_iconst (q := 77) dX12_wordOf_76 rfl ?_
      refine g_ireturn dX12_wordOf_77 rfl ?_
      rw [← hPo]
      exact ⟨_, rfl, Or.inr ⟨show askC om 144 ≠ -16 from (by unfold askC; simp), show _ = -1 - askC om 144 from (by unfold askC; simp)⟩, rfl⟩
    · refine g_tabIn (q := 78) dX12_wordOf_1 14 (by rw [wt, hx]) (by decide) (by decide) rfl (by decide) ?_
      have hk : k = 145 := by omega
      subst hk
      refine g_aload_n (q := 79) dX12_wordOf_78 rfl rfl ?_
      refine g_getI (q := 82) (kI := 15) fX12_154 (by first | assumption | exact S.at _ rfl) dX12_wordOf_79 rfl rfl ?_
      rw [ho]
      refine g_if_ne (q := 85) (tg := 89) dX12_wordOf_82 (by decide) rfl (fun c_82 => ?_) (fun c_82 => ?_)
      · have hom := rdg_z.2 c_82
        subst hom
        refine g_iconst (q := 90) dX12_wordOf_89 rfl ?_
        refine g_ireturn dX12_wordOf_90 rfl ?_
        rw [← hPo]
        exact ⟨_, rfl, Or.inl ⟨rfl, rfl⟩, rfl⟩
      · have hom := rdg_z.1 c_82
        subst hom
        refine g_iconst (q := 86) dX12_wordOf_85 rfl ?_
        refine g_goto (q := 90) dX12_wordOf_86 (by decide) ?_
        refine g_ireturn dX12_wordOf_90 rfl ?_
        rw [← hPo]
        exact ⟨_, rfl, Or.inr ⟨by decide, rfl⟩, rfl⟩
theorem tw_codes {v op : Int} (S : SH sh) (M : MR ct f n T K Pl E σ) (hl : σ.2.1 = 0 → σ.2.2.2.length < 900) (hv : v = mTr op) : Mt YX12_codes d [.inr (.inr 92), .inl v] sh sh ct (pN fun c => MR c f n T K Pl E (codeP op σ) ∧ mrF ct c) := by
  have hw32 := M.wz
  have M0 := M
  obtain ⟨L, ⟨g1, g2, g3, g4⟩, ⟨i0, i1⟩, ⟨h6, h7, h9, h10⟩, ⟨h11, hwb, h12⟩, hc⟩ := M
  have s96 : shA sh 96 = some (20, 1040) := S.at _ rfl
  refine Mt.of rfl (Nat.le_of_ble_eq_true rfl) ?_
  show G _ 0 [some (.inr (.inr 92)), some (.inl v)] [] sh ct
  refine g_aload_n (q := 1) dX12_codes_0 rfl rfl ?_
  refine g_getI (q := 4) (kI := 11) fX12_134 (by first | assumption | exact S.at _ rfl) dX12_codes_1 rfl rfl ?_
  rw [h11]
  refine g_if_eq (q := 7) (tg := 8) dX12_codes_4 (by decide) rfl (fun c_4 => ?_) (fun c_4 => ?_)
  · have hw := hw32.mp c_4
    obtain ⟨a1, a2⟩ := hc hw
    have hll := hl hw
    refine g_aload_n (q := 9) dX12_codes_8 rfl rfl ?_
    refine g_getA (q := 12) (kI := 4) fX12_24 (by first | assumption | exact S.at _ rfl) dX12_codes_9 rfl rfl (by first | assumption | exact L.at _ _ rfl | exact LK.at (by assumption) _ _ rfl | ((repeat first | rewrite [wr_na (by decide)] | rewrite [wr_nk (by decide)] | rewrite [wa_na (by decide)]); first | assumption | exact LK.at (by assumption) _ _ rfl) | exact rfl) ?_
    refine g_sipush (q := 15) dX12_codes_12 (by decide +kernel) rfl ?_
    refine g_aload_n (q := 16) dX12_codes_15 rfl rfl ?_
    refine g_getA (q := 19) (kI := 4) fX12_24 (by first | assumption | exact S.at _ rfl) dX12_codes_16 rfl rfl (by first | assumption | exact L.at _ _ rfl | exact LK.at (by assumption) _ _ rfl | ((repeat first | rewrite [wr_na (by decide)] | rewrite [wr_nk (by decide)] | rewrite [wa_na (by decide)]); first | assumption | exact LK.at (by assumption) _ _ rfl) | exact rfl) ?_
    refine g_sipush (q := 22) dX12_codes_19 (by decide +kernel) rfl ?_
    refine g_iaload (q := 23) (by first | assumption | exact S.at _ rfl) (by omega) (by omega) (by omega) dX12_codes_22 rfl ?_
    rw [a1]
    refine g_iadd (q := 24) dX12_codes_23 rfl ?_
    refine g_iload_n (q := 25) dX12_codes_24 rfl rfl ?_
    refine g_iastore (q := 26) (by first | assumption | exact S.at _ rfl) (by omega) (by omega) (by omega) dX12_codes_25 rfl ?_
    refine g_aload_n (q := 27) dX12_codes_26 rfl rfl ?_
    refine g_getA (q := 30) (kI := 4) fX12_24 (by first | assumption | exact S.at _ rfl) dX12_codes_27 rfl rfl (by first | assumption | exact L.at _ _ rfl | exact LK.at (by assumption) _ _ rfl | ((repeat first | rewrite [wr_na (by decide)] | rewrite [wr_nk (by decide)] | rewrite [wa_na (by decide)]); first | assumption | exact LK.at (by assumption) _ _ rfl) | exact rfl) ?_
    refine g_sipush (q := 33) dX12_codes_30 (by decide +kernel) rfl ?_
    refine g_dup2 (q := 34) dX12_codes_33 rfl rfl rfl ?_
    refine g_iaload (q := 35) (by first | assumption | exact S.at _ rfl) (by omega) (by omega) (by omega) dX12_codes_34 rfl ?_
    rw [wr_nk (by omega), a1]
    refine g_iconst (q := 36) dX12_codes_35 rfl ?_
    refine g_iadd (q := 37) dX12_codes_36 rfl ?_
    refine g_iastore (q := 38) (by first | assumption | exact S.at _ rfl) (by omega) (by omega) (by omega) dX12_codes_37 rfl ?_
    refine g_return dX12_codes_38 rfl ?_
    rw [codeP_go hw]
    have F : mrF ct (wr (wr ct 96 (140 + ((σ.2.2.2.length : Nat) : Int)) v) 96 139 (((σ.2.2.2.length : Nat) : Int) + 1)) := ⟨fun j _ _ _ _ _ _ => by rw [wr_na (by decide), wr_na (by decide)], fun j hj => by rw [wr_nk (by omega), wr_nk (by omega)], (eqBut.rf.wr (by decide)).wr (by decide)⟩
    have e92 : (wr (wr ct 96 (140 + ((σ.2.2.2.length : Nat) : Int)) v) 96 139 (((σ.2.2.2.length : Nat) : Int) + 1)) 92 = ct 92 := by funext j; rw [wr_na (by decide), wr_na (by decide)]
    have e95 : (wr (wr ct 96 (140 + ((σ.2.2.2.length : Nat) : Int)) v) 96 139 (((σ.2.2.2.length : Nat) : Int) + 1)) 95 = ct 95 := by funext j; rw [wr_na (by decide), wr_na (by decide)]
    refine ⟨rfl, ⟨F.L L, ⟨by rw [e92]; exact g1, g2, fun j j0 j1 => by rw [e95]; exact g3 j j0 j1, g4⟩, ⟨i0, i1⟩, ⟨by rw [e92]; exact h6, by rw [e92]; exact h7, by rw [e92]; exact h9, fun z => by rw [e92]; exact h10 z⟩, ⟨by rw [e92]; exact h11, hwb, fun z => absurd hw z⟩, fun _ => ⟨?_, fun j hj => ?_⟩⟩, F⟩
    · dsimp only
      rw [wr_eq, List.length_append, List.length_singleton]
      omega
    · dsimp only at hj ⊢
      rw [List.length_append, List.length_singleton] at hj
      rw [wr_nk (by omega)]
      by_cases hjl : j < σ.2.2.2.length
      · rw [wr_nk (by omega), a2 j hjl, List.getD_eq_getElem?_getD, List.getD_eq_getElem?_getD, List.getElem?_append_left hjl]
      · have : j = σ.2.2.2.length := by omega
        subst this
        rw [wr_eq, hv, List.getD_eq_getElem?_getD, List.getElem?_append_right (Nat.le_refl _), Nat.sub_self]
        rfl
  · have hw : ¬ σ.2.1 = 0 := fun z => c_4 (hw32.mpr z)
    refine g_return dX12_codes_7 rfl ?_
    rw [codeP_stop hw]
    exact ⟨rfl, M0, mrF.rf⟩
theorem tw_goesIn {r : Nat} (S : SH sh) (M : MR ct f n T K Pl E σ) (hg : gd T σ) (h1 : tkP K σ ≠ 203) (h2 : tkP K σ ≠ 201) (h3 : tkP K σ ≠ 202) (hr : r ≤ 6) : Mt YX12_goesIn (d + 6) [.inr (.inr 92), .inl (6 - (r : Int))] sh sh ct (pI fun v c => ((v = 0 ∧ r = 0 ∧ MR c f n T K Pl E (failP K Pl 4 σ)) ∨ (v = 1 ∧ 1 ≤ r ∧ MR c f n T K Pl E (stepP T σ))) ∧ mrF ct c) := by
  have L := M.1
  have hw := tk_w h1
  generalize hPo : (pI fun v c => ((v = 0 ∧ r = 0 ∧ MR c f n T K Pl E (failP K Pl 4 σ)) ∨ (v = 1 ∧ 1 ≤ r ∧ MR c f n T K Pl E (stepP T σ))) ∧ mrF ct c) = Po
  refine Mt.of rfl (Nat.le_of_ble_eq_true rfl) ?_
  show G _ 0 [some (.inr (.inr 92)), some (.inl (6 - (r : Int)))] [] sh ct
  refine g_iload_n (q := 1) dX12_goesIn_0 rfl rfl ?_
  refine g_bipush (q := 3) dX12_goesIn_1 (by decide +kernel) rfl ?_
  refine g_icmp_ne (q := 6) (tg := 11) dX12_goesIn_3 (by decide) rfl (fun c_3 => ?_) (fun c_3 => ?_)
  · rw [w32_id (x := 6 - (r : Int)) (by omega) (by omega), show w32 6 = 6 from rfl] at c_3
    refine g_aload_n (q := 12) dX12_goesIn_11 rfl rfl ?_
    refine g_getI (q := 15) (kI := 11) fX12_134 (by first | assumption | exact S.at _ rfl) dX12_goesIn_12 rfl rfl ?_
    rw [M.w, hw]
    refine g_if_ne (q := 18) (tg := 22) dX12_goesIn_15 (by decide) rfl (fun c_15 => ?_) (fun c_15 => ?_)
    · exact absurd rfl c_15
    · refine g_aload_n (q := 19) dX12_goesIn_18 rfl rfl ?_
      refine g_callV (q := 22) lX12_143 mX12_next nX12_next rfl (tw_nextM d sh _ S M hg h1 h2 h3) (by first | assumption | exact S.at _ rfl) rfl rfl shLe.rf (rmOk.mk (by omega) (by first | exact shLe.rf | assumption)) (Nat.le_of_ble_eq_true rfl) dX12_goesIn_19 rfl rfl (kN fun c2 hq => ?_)
      have L2 := hq.1.1
      have hw2 : (stepP T σ).2.1 = 0 := by rw [(stepP_gd hg).2.2]; exact hw
      refine g_aload_n (q := 23) dX12_goesIn_22 rfl rfl ?_
      refine g_getI (q := 26) (kI := 11) fX12_134 (by first | assumption | exact S.at _ rfl) dX12_goesIn_23 rfl rfl ?_
      rw [hq.1.w, hw2]
      refine g_if_ne (q := 29) (tg := 33) dX12_goesIn_26 (by decide) rfl (fun c_26 => ?_) (fun c_26 => ?_)
      · exact absurd rfl c_26
      · refine g_iconst (q := 30) dX12_goesIn_29 rfl ?_
        refine g_goto (q := 34) dX12_goesIn_30 (by decide) ?_
        refine g_zreturn dX12_goesIn_34 rfl (by decide +kernel) ?_
        rw [← hPo]
        exact ⟨_, rfl, Or.inr ⟨rfl, by omega, hq.1⟩, hq.2⟩
  · rw [w32_id (x := 6 - (r : Int)) (by omega) (by omega), show w32 6 = 6 from rfl] at c_3
    refine g_aload_n (q := 7) dX12_goesIn_6 rfl rfl ?_
    refine g_iconst (q := 8) dX12_goesIn_7 rfl ?_
    refine g_callV (q := 11) lX12_146 mX12_fails nX12_fails rfl (tw_fails 0 sh _ S M (k := 4) (by decide)) (by first | assumption | exact S.at _ rfl) rfl rfl shLe.rf (rmOk.mk (by omega) (by first | exact shLe.rf | assumption)) (Nat.le_of_ble_eq_true rfl) dX12_goesIn_8 rfl rfl (kN fun c2 hq => ?_)
    have L2 := hq.1.1
    have hw2 : ¬ (failP K Pl 4 σ).2.1 = 0 := failP_w (by decide)
    have hw3 := hq.1.wz
    refine g_aload_n (q := 12) dX12_goesIn_11 rfl rfl ?_
    refine g_getI (q := 15) (kI := 11) fX12_134 (by first | assumption | exact S.at _ rfl) dX12_goesIn_12 rfl rfl ?_
    rw [hq.1.w]
    refine g_if_ne (q := 18) (tg := 22) dX12_goesIn_15 (by decide) rfl (fun c_15 => ?_) (fun c_15 => ?_)
    · refine g_aload_n (q := 23) dX12_goesIn_22 rfl rfl ?_
      refine g_getI (q := 26) (kI := 11) fX12_134 (by first | assumption | exact S.at _ rfl) dX12_goesIn_23 rfl rfl ?_
      rw [hq.1.w]
      refine g_if_ne (q := 29) (tg := 33) dX12_goesIn_26 (by decide) rfl (fun c_26 => ?_) (fun c_26 => ?_)
      · refine g_iconst (q := 34) dX12_goesIn_33 rfl ?_
        refine g_zreturn dX12_goesIn_34 rfl (by decide +kernel) ?_
        rw [← hPo]
        exact ⟨_, rfl, Or.inl ⟨rfl, by omega, hq.1⟩, hq.2⟩
      · exact absurd (hw3.mp c_26) hw2
    · exact absurd (hw3.mp c_15) hw2
end
