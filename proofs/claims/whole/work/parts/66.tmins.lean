/-! the reference: the shortest minutes -/
def LM (c : mbCt) (β : Bk) (mk : Int → Int) (U : Nat) (mo tone : Int) (M : Nat) (st r : Int) : Prop := (r = -1 ∧ ∀ n, ¬ RnR β mk U mo tone M st 0 n) ∨ ∃ (n : Nat) (l : List Nat), r = n ∧ n ≤ 44800 ∧ RnR β mk U mo tone M st 0 n ∧ (∀ m, m < n → ¬ RnR β mk U mo tone M st 0 m) ∧ Gr (scW β mk U mo (wM M)) (goalW β tone (wM M)) n (st, 0) l ∧ ∀ (k : Nat) (h : k < l.length), c 102 k = mnt l[k]
theorem mnt_lt {i j : Nat} (h : j < i) : mnt j < mnt i := by
  unfold mnt
  omega
theorem exF.eq {v : Int} {R : Nat → Prop} (h : exF v R) {n : Nat} (hn : n ≤ 44800) (hlow : ∀ m, m < n → ¬ R m) : v = n ↔ R n := by
  rcases h with ⟨h1, h2⟩ | ⟨i, h1, h2, h3, h4⟩
  · constructor
    · intro e
      omega
    · intro e
      exact absurd e (h2 n)
  · constructor
    · intro e
      have : i = n := by omega
      rw [← this]
      exact h3
    · intro e
      rcases Nat.lt_trichotomy i n with h | h | h
      · exact absurd h3 (hlow i h)
      · omega
      · exact absurd e (h4 n h)
section
variable (d : Nat) (sh : mbSh) (ct : mbCt) {β : Bk} {mk : Int → Int} {st qu un mo : Int}
theorem gr_step {U M n : Nat} {cap tone x s f v : Int} {l : List Nat} (hU : useOk U qu un) (hc : cap ≤ 9) (hB : bkB β) (hM : fulM β f M) (s0 : 0 ≤ s) (s1 : s < 2 ^ M) (v0 : 0 ≤ v) (hl : ldP β mk qu un cap x v) (hR : RnR β mk U cap tone M (nxB β x (v / 10) (v % 10)) (spI f s (v / 10)) n) (hn : ∀ v', 0 ≤ v' → v' < v → ldP β mk qu un cap x v' → ¬ RnR β mk U cap tone M (nxB β x (v' / 10) (v' % 10)) (spI f s (v' / 10)) n) (hG : Gr (scW β mk U cap (wM M)) (goalW β tone (wM M)) n (nxB β x (v / 10) (v % 10), spI f s (v / 10)) l) : ∃ i : Nat, mnt i = v ∧ Gr (scW β mk U cap (wM M)) (goalW β tone (wM M)) (n + 1) (x, s) (i :: l) := by
  obtain ⟨i, hi, rfl, e1, e2⟩ := ld_in hB v0 hl
  obtain ⟨post, hs⟩ := scW_split (wM M) (x := (x, s)) hi ((ld_al hU hc hi).mp hl)
  have hsp := (sp_fm hM s0 s1 (m := mnt i / 10) (by omega) hl.1.1).1
  have hnode : (scN β (wM M) (x, s) i).2 = (nxB β x (mnt i / 10) (mnt i % 10), spI f s (mnt i / 10)) := by
    rw [hsp, ← e1, ← e2, show ((i / 8 : Nat) : Int).toNat = i / 8 by omega]
    rfl
  refine ⟨i, rfl, ((List.range i).filter (alB β mk U cap x)).map (scN β (wM M) (x, s)), (scN β (wM M) (x, s) i).2, post, hs, by rw [hnode]; exact hR, ?_, by rw [hnode]; exact hG⟩
  intro q hq
  obtain ⟨j, hj, rfl⟩ := List.mem_map.mp hq
  obtain ⟨h1, h2⟩ := List.mem_filter.mp hj
  have hji := List.mem_range.mp h1
  have hj48 : j < 48 := by omega
  obtain ⟨a1, a2, a3, a4⟩ := mnt_in hj48
  have hlj := (ld_al hU hc hj48).mpr h2
  have := hn (mnt j) a1 (mnt_lt hji) hlj
  have hspj := (sp_fm hM s0 s1 (m := mnt j / 10) (by omega) hlj.1.1).1
  have hnode2 : (scN β (wM M) (x, s) j).2 = (nxB β x (mnt j / 10) (mnt j % 10), spI f s (mnt j / 10)) := by
    rw [hspj, a3, a4, show ((j / 8 : Nat) : Int).toNat = j / 8 by omega]
    rfl
  rw [hnode2]
  exact this
set_option maxRecDepth 4000 in
theorem tw_laysMinutes {tone f : Int} {U M : Nat} (S : SH sh) (MM : MD ct β mk st) (D : LD ct β mk qu un mo) (hU : useOk U qu un) (ho : 0 ≤ mo ∧ mo ≤ 9) (hM : fulM β f M) (t0 : -1 ≤ tone) (t1 : tone ≤ 10) : Mt YX12_laysMinutes (d + 3) [.inr (.inr 92), .inl tone, .inl f] sh sh ct (pI fun r c => LM c β mk U mo tone M st r ∧ eqBut [101, 102] ct c) := by
  have hB := MM.B
  have L := MM.L
  have hmem := MM.mem
  have hrg := MM.rg
  have hp2 := pw6 hM.1
  have hf : f = 0 ∨ f = 1 := by rcases hM.2 with h | h; exact Or.inl h.1; exact Or.inr h.1
  have s100 : shA sh 100 = some (20, 70000) := S.at _ rfl
  have s101 : shA sh 101 = some (20, 44800) := S.at _ rfl
  have s102 : shA sh 102 = some (20, 44800) := S.at _ rfl
  generalize hP : (pI fun r c => LM c β mk U mo tone M st r ∧ eqBut [101, 102] ct c) = Po
  refine Mt.of rfl (Nat.le_of_ble_eq_true rfl) ?_
  show G _ 0 [some (.inr (.inr 92)), some (.inl tone), some (.inl f), none, none, none, none, none] [] sh ct
  refine g_aload_n (q := 1) dX12_laysMinutes_0 rfl rfl ?_
  refine g_iload_n (q := 2) dX12_laysMinutes_1 rfl rfl ?_
  refine g_iload_n (q := 3) dX12_laysMinutes_2 rfl rfl ?_
  refine g_callV (q := 6) lX12_347 mX12_laysStill nX12_laysStill rfl (tw_laysStill d sh ct S MM D hU ho hM t0 t1) (by first | assumption | exact S.at _ rfl) rfl rfl shLe.rf (rmOk.mk (by omega) (by first | exact shLe.rf | assumption)) (Nat.le_of_ble_eq_true rfl) dX12_laysMinutes_3 rfl rfl (kN fun c1 hp => ?_)
  obtain ⟨F, e1⟩ := hp
  have L1 : LK c1 := L.eb e1 rfl
  have M1 : MD c1 β mk st := MM.eq L1 (e1 93 (by decide))
  have D1 : LD c1 β mk qu un mo := D.eq (e1 100 (by decide)) (e1 103 (by decide))
  refine g_aload_n (q := 7) dX12_laysMinutes_6 rfl rfl ?_
  refine g_callV (q := 10) lX12_251 mX12_standNow nX12_standNow rfl (tw_standNow (d + 2) sh _ M1 S) (by first | assumption | exact S.at _ rfl) rfl rfl shLe.rf (rmOk.mk (by omega) (by first | exact shLe.rf | assumption)) (Nat.le_of_ble_eq_true rfl) dX12_laysMinutes_7 rfl rfl (kI fun r_ c_ hp => ?_)
  obtain ⟨hr, hq⟩ := hp
  replace hr := hr.symm
  replace hq := hq.symm
  subst hr hq
  have hF0 := F st 0 hrg.1 hrg.2 (by omega) (by omega)
  rw [Int.add_zero] at hF0
  refine s_istore_n_8_3 (q := 11) dX12_laysMinutes_10 rfl rfl rfl ?_
  refine g_iconst (q := 12) dX12_laysMinutes_11 rfl ?_
  refine s_istore_8_4 (q := 14) dX12_laysMinutes_12 rfl rfl rfl ?_
  refine g_aload_n (q := 15) dX12_laysMinutes_14 rfl rfl ?_
  refine g_getA (q := 18) (kI := 22) fX12_44 (by first | assumption | exact S.at _ rfl) dX12_laysMinutes_15 rfl rfl (by first | assumption | exact L.at _ _ rfl | exact LK.at (by assumption) _ _ rfl | ((repeat first | rewrite [wr_na (by decide)] | rewrite [wr_nk (by decide)] | rewrite [wa_na (by decide)]); first | assumption | exact LK.at (by assumption) _ _ rfl) | exact rfl) ?_
  refine g_bipush (q := 20) dX12_laysMinutes_18 (by decide +kernel) rfl ?_
  refine g_iload_n (q := 21) dX12_laysMinutes_20 rfl rfl ?_
  refine g_imul (q := 22) dX12_laysMinutes_21 rfl ?_
  refine g_iaload (q := 23) (by first | assumption | exact S.at _ rfl) (by omega) (by omega) (by omega) dX12_laysMinutes_22 rfl ?_
  refine s_istore_8_5 (q := 25) dX12_laysMinutes_23 rfl rfl rfl ?_
  refine g_iload (q := 27) dX12_laysMinutes_25 rfl rfl ?_
  refine g_ldcw (q := 30) dX12_laysMinutes_27 kX12_334 rfl ?_
  refine g_icmp_lt (q := 33) (tg := 35) dX12_laysMinutes_30 (by decide) rfl (fun c_30 => ?_) (fun c_30 => ?_)
  · -- there are some
    have hx : ∃ n : Nat, n ≤ 44800 ∧ c1 101 (64 * st) = n ∧ RnR β mk U mo tone M st 0 n ∧ ∀ m, m < n → ¬ RnR β mk U mo tone M st 0 m := by
      rcases hF0 with ⟨a, -⟩ | ⟨i, a⟩
      · rw [a] at c_30
        exact absurd c_30 (by decide)
      · exact ⟨i, a⟩
    obtain ⟨n, hn1, hn2, hn3, hn4⟩ := hx
    rw [hn2]
    refine g_iconst (q := 36) dX12_laysMinutes_35 rfl ?_
    refine s_istore_8_6 (q := 38) dX12_laysMinutes_36 rfl rfl rfl ?_
    refine g_forA (α := Int × Int) (fun k a => [some (.inr (.inr 92)), some (.inl tone), some (.inl f), some (.inl a.1), some (.inl a.2), some (.inl n), some (.inl k), none]) (fun k a c => 0 ≤ k ∧ (0 ≤ a.1 ∧ a.1 < 700 ∧ 0 ≤ a.2 ∧ a.2 < 2 ^ M) ∧ eqBut [102] c1 c ∧ ∃ (r : Nat) (lp : List Nat), k + r = n ∧ (lp.length : Int) = k ∧ RnR β mk U mo tone M a.1 a.2 r ∧ (∀ m, m < r → ¬ RnR β mk U mo tone M a.1 a.2 m) ∧ (∀ (j : Nat) (h : j < lp.length), c 102 j = mnt lp[j]) ∧ ∀ l, Gr (scW β mk U mo (wM M)) (goalW β tone (wM M)) r a l → Gr (scW β mk U mo (wM M)) (goalW β tone (wM M)) n (st, 0) (lp ++ l)) n ?_ ?_ (i := 0) (a := (st, 0)) (by omega) ⟨by omega, ⟨hrg.1, hrg.2, by omega, by show (0 : Int) < 2 ^ M; omega⟩, eqBut.rf, n, [], by omega, rfl, hn3, hn4, fun j h => absurd h (by simp), fun l h => h⟩ (by simp [lsSub])
    · rintro k ⟨x, s⟩ c hk ⟨k0, ⟨x0, x1, s0, s1⟩, e, r, lp, hr, hlp, hR, hmin, hfd, hGr⟩ kk
      dsimp only at x0 x1 s0 s1 hR hmin hGr
      have L2 : LK c := L1.eb e rfl
      have ec : c 101 = c1 101 := e 101 (by decide)
      have D2 : LD c β mk qu un mo := D1.eq (e 100 (by decide)) (e 103 (by decide))
      obtain ⟨r', rfl⟩ : ∃ r', r = r' + 1 := ⟨r - 1, by omega⟩
      obtain ⟨vg, vg0, vg1, vgl, vgR⟩ := (RnR_s hU ho.2 hB hM s0 s1).mp hR
      have still : ∀ v, 0 ≤ v → v < 60 → ldP β mk qu un mo x v → (0 ≤ 64 * nxB β x (v / 10) (v % 10) + spI f s (v / 10) ∧ 64 * nxB β x (v / 10) (v % 10) + spI f s (v / 10) < 44800) ∧ (0 ≤ c 101 (64 * nxB β x (v / 10) (v % 10) + spI f s (v / 10)) ∧ c 101 (64 * nxB β x (v / 10) (v % 10) + spI f s (v / 10)) ≤ 268435456) ∧ (c 101 (64 * nxB β x (v / 10) (v % 10) + spI f s (v / 10)) = r' ↔ RnR β mk U mo tone M (nxB β x (v / 10) (v % 10)) (spI f s (v / 10)) r') := by
        intro v v0 v1 hl
        have hm := hl.1.1
        have hnx := nxB_in (β := β) (st := x) (m := v / 10) (s := v % 10) (by omega) (by omega)
        have hsp := sp_fm hM s0 s1 (m := v / 10) (by omega) hm
        have hF := F _ _ hnx.1 hnx.2 hsp.2.1 hsp.2.2
        rw [ec]
        refine ⟨by omega, ?_, hF.eq (by omega) (fun m hm2 hRm => hmin (m + 1) (by omega) ((RnR_s hU ho.2 hB hM s0 s1).mpr ⟨v, v0, v1, hl, hRm⟩))⟩
        rcases hF with ⟨a, -⟩ | ⟨i, a, b, -⟩ <;> omega
      refine g_iload (q := 40) dX12_laysMinutes_38 rfl rfl ?_
      refine g_iload (q := 42) dX12_laysMinutes_40 rfl rfl ?_
      refine g_icmp_ge (q := 45) (tg := 149) dX12_laysMinutes_42 (by decide) rfl (fun c_42 => ?_) (fun c_42 => ?_)
      · exact absurd c_42 (by unfold w32; omega)
      · refine g_iconst (q := 46) dX12_laysMinutes_45 rfl ?_
        refine s_istore_8_7 (q := 48) dX12_laysMinutes_46 rfl rfl rfl ?_
        refine g_for (fun v => [some (.inr (.inr 92)), some (.inl tone), some (.inl f), some (.inl x), some (.inl s), some (.inl n), some (.inl k), some (.inl v)]) (fun v c2 => c2 = c ∧ 0 ≤ v ∧ v ≤ vg ∧ ∀ v', 0 ≤ v' → v' < v → ldP β mk qu un mo x v' → ¬ RnR β mk U mo tone M (nxB β x (v' / 10) (v' % 10)) (spI f s (v' / 10)) r') 60 ?_ ?_ (i := 0) (by omega) ⟨rfl, by omega, vg0, fun v' _ _ => by omega⟩ (by simp [lsSub])
        · rintro v c2 hv ⟨rfl, v0, hvg, hno⟩ k2
          have hld := D2.at x0 x1 v0 (by omega)
          have hp := ldV_p (β := β) (mk := mk) (qu := qu) (un := un) (mo := mo) (x := x) v0
          have go : ¬ (ldP β mk qu un mo x v ∧ RnR β mk U mo tone M (nxB β x (v / 10) (v % 10)) (spI f s (v / 10)) r') → G (mkK YX12_laysMinutes (d + 3) sh sh Po) 104 [some (.inr (.inr 92)), some (.inl tone), some (.inl f), some (.inl x), some (.inl s), some (.inl n), some (.inl k), some (.inl v)] [] sh c2 := by
            intro h
            refine s_iinc_8_7 (q := 107) dX12_laysMinutes_104 rfl rfl rfl ?_
            refine g_goto (q := 48) dX12_laysMinutes_107 (by decide) ?_
            refine k2 _ _ (by simp [lsSub]) ⟨rfl, by omega, ?_, fun v' a0 a1 a2 a3 => ?_⟩
            · rcases Int.lt_trichotomy v vg with h1 | h1 | h1
              · omega
              · subst h1
                exact absurd ⟨vgl, vgR⟩ h
              · omega
            · by_cases e : v' = v
              · subst e
                exact h ⟨a2, a3⟩
              · exact hno v' a0 (by omega) a2 a3
          refine g_aload_n (q := 49) dX12_laysMinutes_48 rfl rfl ?_
          refine g_getA (q := 52) (kI := 21) fX12_40 (by first | assumption | exact S.at _ rfl) dX12_laysMinutes_49 rfl rfl (by first | assumption | exact L.at _ _ rfl | exact LK.at (by assumption) _ _ rfl | ((repeat first | rewrite [wr_na (by decide)] | rewrite [wr_nk (by decide)] | rewrite [wa_na (by decide)]); first | assumption | exact LK.at (by assumption) _ _ rfl) | exact rfl) ?_
          refine g_bipush (q := 54) dX12_laysMinutes_52 (by decide +kernel) rfl ?_
          refine g_iload_n (q := 55) dX12_laysMinutes_54 rfl rfl ?_
          refine g_imul (q := 56) dX12_laysMinutes_55 rfl ?_
          refine g_iload (q := 58) dX12_laysMinutes_56 rfl rfl ?_
          refine g_iadd (q := 59) dX12_laysMinutes_58 rfl ?_
          refine g_iaload (q := 60) (by first | assumption | exact S.at _ rfl) (by omega) (by omega) (by omega) dX12_laysMinutes_59 rfl ?_
          rw [hld]
          by_cases hq : ldP β mk qu un mo x v
          · have hs := still v v0 hv hq
            rw [hp.2 hq]
            have hnx := nxB_in (β := β) (st := x) (m := v / 10) (s := v % 10) (by omega) (by have := hq.1.1; omega)
            refine g_iconst (q := 61) dX12_laysMinutes_60 rfl ?_
            refine g_icmp_eq (q := 64) (tg := 104) dX12_laysMinutes_61 (by decide) rfl (fun c_61 => ?_) (fun c_61 => ?_)
            · exact absurd c_61 (by unfold w32; omega)
            · refine g_aload_n (q := 65) dX12_laysMinutes_64 rfl rfl ?_
              refine g_getA (q := 68) (kI := 22) fX12_44 (by first | assumption | exact S.at _ rfl) dX12_laysMinutes_65 rfl rfl (by first | assumption | exact L.at _ _ rfl | exact LK.at (by assumption) _ _ rfl | ((repeat first | rewrite [wr_na (by decide)] | rewrite [wr_nk (by decide)] | rewrite [wa_na (by decide)]); first | assumption | exact LK.at (by assumption) _ _ rfl) | exact rfl) ?_
              refine g_bipush (q := 70) dX12_laysMinutes_68 (by decide +kernel) rfl ?_
              refine g_aload_n (q := 71) dX12_laysMinutes_70 rfl rfl ?_
              refine g_getA (q := 74) (kI := 21) fX12_40 (by first | assumption | exact S.at _ rfl) dX12_laysMinutes_71 rfl rfl (by first | assumption | exact L.at _ _ rfl | exact LK.at (by assumption) _ _ rfl | ((repeat first | rewrite [wr_na (by decide)] | rewrite [wr_nk (by decide)] | rewrite [wa_na (by decide)]); first | assumption | exact LK.at (by assumption) _ _ rfl) | exact rfl) ?_
              refine g_bipush (q := 76) dX12_laysMinutes_74 (by decide +kernel) rfl ?_
              refine g_iload_n (q := 77) dX12_laysMinutes_76 rfl rfl ?_
              refine g_imul (q := 78) dX12_laysMinutes_77 rfl ?_
              refine g_iload (q := 80) dX12_laysMinutes_78 rfl rfl ?_
              refine g_iadd (q := 81) dX12_laysMinutes_80 rfl ?_
              refine g_iaload (q := 82) (by first | assumption | exact S.at _ rfl) (by omega) (by omega) (by omega) dX12_laysMinutes_81 rfl ?_
              rw [hld, hp.2 hq]
              refine g_imul (q := 83) dX12_laysMinutes_82 rfl ?_
              refine g_aload_n (q := 84) dX12_laysMinutes_83 rfl rfl ?_
              refine g_iload (q := 86) dX12_laysMinutes_84 rfl rfl ?_
              refine g_iload (q := 88) dX12_laysMinutes_86 rfl rfl ?_
              refine g_iload_n (q := 89) dX12_laysMinutes_88 rfl rfl ?_
              refine g_callV (q := 92) lX12_343 mX12_spokenBy nX12_spokenBy rfl (tw_spokenBy (d + 2) sh _ hf v0 (by omega)) (by first | assumption | exact S.at _ rfl) rfl rfl shLe.rf (rmOk.mk (by omega) (by first | exact shLe.rf | assumption)) (Nat.le_of_ble_eq_true rfl) dX12_laysMinutes_89 rfl rfl (kI fun r_ c_ hp => ?_)
              obtain ⟨hr, hq⟩ := hp
              replace hr := hr.symm
              replace hq := hq.symm
              subst hr hq
              refine g_iadd (q := 93) dX12_laysMinutes_92 rfl ?_
              refine g_iaload (q := 94) (by first | assumption | exact S.at _ rfl) (by omega) (by omega) (by omega) dX12_laysMinutes_93 rfl ?_
              refine g_iload (q := 96) dX12_laysMinutes_94 rfl rfl ?_
              refine g_iload (q := 98) dX12_laysMinutes_96 rfl rfl ?_
              refine g_isub (q := 99) dX12_laysMinutes_98 rfl ?_
              refine g_iconst (q := 100) dX12_laysMinutes_99 rfl ?_
              refine g_isub (q := 101) dX12_laysMinutes_100 rfl ?_
              refine g_icmp_eq (q := 104) (tg := 110) dX12_laysMinutes_101 (by decide) rfl (fun c_101 => ?_) (fun c_101 => ?_)
              · have hgood : RnR β mk U mo tone M (nxB β x (v / 10) (v % 10)) (spI f s (v / 10)) r' := hs.2.2.mp (by unfold w32 at c_101; omega)
                have hsp := sp_fm hM s0 s1 (m := v / 10) (by omega) hq.1.1
                refine g_aload_n (q := 111) dX12_laysMinutes_110 rfl rfl ?_
                refine g_getA (q := 114) (kI := 23) fX12_47 (by first | assumption | exact S.at _ rfl) dX12_laysMinutes_111 rfl rfl (by first | assumption | exact L.at _ _ rfl | exact LK.at (by assumption) _ _ rfl | ((repeat first | rewrite [wr_na (by decide)] | rewrite [wr_nk (by decide)] | rewrite [wa_na (by decide)]); first | assumption | exact LK.at (by assumption) _ _ rfl) | exact rfl) ?_
                refine g_iload (q := 116) dX12_laysMinutes_114 rfl rfl ?_
                refine g_iload (q := 118) dX12_laysMinutes_116 rfl rfl ?_
                refine g_iastore (q := 119) (by first | assumption | exact S.at _ rfl) (by omega) (by omega) (by omega) dX12_laysMinutes_118 rfl ?_
                refine g_aload_n (q := 120) dX12_laysMinutes_119 rfl rfl ?_
                refine g_iload (q := 122) dX12_laysMinutes_120 rfl rfl ?_
                refine g_iload (q := 124) dX12_laysMinutes_122 rfl rfl ?_
                refine g_iload_n (q := 125) dX12_laysMinutes_124 rfl rfl ?_
                have L3 : LK (wr c2 102 k v) := L2.wr (lkF_none rfl k)
                refine g_callV (q := 128) lX12_343 mX12_spokenBy nX12_spokenBy rfl (tw_spokenBy (d + 2) sh _ hf v0 (by omega)) (by first | assumption | exact S.at _ rfl) rfl rfl shLe.rf (rmOk.mk (by omega) (by first | exact shLe.rf | assumption)) (Nat.le_of_ble_eq_true rfl) dX12_laysMinutes_125 rfl rfl (kI fun r_ c_ hp => ?_)
                obtain ⟨hr, hq⟩ := hp
                replace hr := hr.symm
                replace hq := hq.symm
                subst hr hq
                have hld2 : wr c2 102 k v 100 (100 * x + v) = nxB β x (v / 10) (v % 10) := by rw [wr_na (by decide), hld, hp.2 hq]
                refine s_istore_8_4 (q := 130) dX12_laysMinutes_128 rfl rfl rfl ?_
                refine g_aload_n (q := 131) dX12_laysMinutes_130 rfl rfl ?_
                refine g_getA (q := 134) (kI := 21) fX12_40 (by first | assumption | exact S.at _ rfl) dX12_laysMinutes_131 rfl rfl (by first | assumption | exact L.at _ _ rfl | exact LK.at (by assumption) _ _ rfl | ((repeat first | rewrite [wr_na (by decide)] | rewrite [wr_nk (by decide)] | rewrite [wa_na (by decide)]); first | assumption | exact LK.at (by assumption) _ _ rfl) | exact rfl) ?_
                refine g_bipush (q := 136) dX12_laysMinutes_134 (by decide +kernel) rfl ?_
                refine g_iload_n (q := 137) dX12_laysMinutes_136 rfl rfl ?_
                refine g_imul (q := 138) dX12_laysMinutes_137 rfl ?_
                refine g_iload (q := 140) dX12_laysMinutes_138 rfl rfl ?_
                refine g_iadd (q := 141) dX12_laysMinutes_140 rfl ?_
                refine g_iaload (q := 142) (by first | assumption | exact S.at _ rfl) (by omega) (by omega) (by omega) dX12_laysMinutes_141 rfl ?_
                rw [hld2]
                refine s_istore_n_8_3 (q := 143) dX12_laysMinutes_142 rfl rfl rfl ?_
                refine s_iinc_8_6 (q := 146) dX12_laysMinutes_143 rfl rfl rfl ?_
                refine g_goto (q := 38) dX12_laysMinutes_146 (by decide) ?_
                refine kk (nxB β x (v / 10) (v % 10), spI f s (v / 10)) _ _ (by simp [lsSub]) ⟨by omega, ⟨hnx.1, hnx.2, hsp.2.1, hsp.2.2⟩, e.wr (by decide), ?_⟩
                obtain ⟨i, -, hi, -⟩ := ld_in hB v0 hq
                refine ⟨r', lp ++ [i], by omega, by simp; omega, hgood, fun m hm2 hRm => hmin (m + 1) (by omega) ((RnR_s hU ho.2 hB hM s0 s1).mpr ⟨v, v0, hv, hq, hRm⟩), ?_, ?_⟩
                · intro j hj
                  by_cases hjl : j < lp.length
                  · rw [wr_nk (by omega), hfd j hjl, List.getElem_append_left hjl]
                  · have hje : j = lp.length := by simp at hj; omega
                    subst hje
                    have hkk : ((lp.length : Nat) : Int) = k := hlp
                    rw [hkk, wr_eq]
                    simp [hi]
                · intro l hl
                  obtain ⟨i2, hi2, hG⟩ := gr_step hU ho.2 hB hM s0 s1 v0 hq hgood hno hl
                  have : i2 = i := by
                    rcases Nat.lt_trichotomy i2 i with h | h | h
                    · have := mnt_lt h
                      omega
                    · exact h
                    · have := mnt_lt h
                      omega
                  subst this
                  have := hGr _ hG
                  rw [List.append_assoc]
                  exact this
              · refine go (fun z => ?_)
                have := hs.2.2.mpr z.2
                exact c_101 (by rw [this]; unfold w32; omega)
          · rw [hp.1.mpr hq]
            refine g_iconst (q := 61) dX12_laysMinutes_60 rfl ?_
            refine g_icmp_eq (q := 64) (tg := 104) dX12_laysMinutes_61 (by decide) rfl (fun c_61 => ?_) (fun c_61 => ?_)
            · exact go (fun z => hq z.1)
            · exact absurd rfl c_61
        · rintro c2 ⟨-, -, h60, -⟩
          omega
    · rintro ⟨x, s⟩ c ⟨k0, -, e, r, lp, hr, hlp, hR, hmin, hfd, hGr⟩
      have hr0 : r = 0 := by omega
      subst hr0
      refine g_iload (q := 40) dX12_laysMinutes_38 rfl rfl ?_
      refine g_iload (q := 42) dX12_laysMinutes_40 rfl rfl ?_
      refine g_icmp_ge (q := 45) (tg := 149) dX12_laysMinutes_42 (by decide) rfl (fun c_42 => ?_) (fun c_42 => ?_)
      · refine g_iload (q := 151) dX12_laysMinutes_149 rfl rfl ?_
        refine g_ireturn dX12_laysMinutes_151 rfl ?_
        rw [← hP]
        refine ⟨_, rfl, Or.inr ⟨n, lp ++ [], rfl, hn1, hn3, hn4, hGr [] rfl, ?_⟩, (e1.mono (by decide)).tr (e.mono (by decide))⟩
        simpa using hfd
      · exact absurd c_42 (Int.lt_irrefl _)
  · -- there are none
    refine g_iconst (q := 34) dX12_laysMinutes_33 rfl ?_
    refine g_ireturn dX12_laysMinutes_34 rfl ?_
    rw [← hP]
    refine ⟨_, rfl, Or.inl ⟨rfl, ?_⟩, e1.mono (by decide)⟩
    rcases hF0 with ⟨-, a⟩ | ⟨i, a, b, -⟩
    · exact a
    · rw [b] at c_30
      exact absurd c_30 (by unfold w32; omega)
end
