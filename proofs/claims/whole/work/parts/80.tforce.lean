/-! the reference: what is forced, strokes -/
section
variable (d : Nat) (sh : mbSh) (ct : mbCt) {β : Bk} {mk : Int → Int} {st : Int}
theorem tw_forces {tone : Int} (S : SH sh) (M : MD ct β mk st) (ht : i32 tone) : Mt YX12_forces (d + 7) [.inr (.inr 92), .inl tone] sh sh ct (pI fun r c => ((isTn tone ∧ fcS β mk tone st r) ∨ (¬ isTn tone ∧ r = -3)) ∧ mF ct c) := by
  refine Mt.of rfl (Nat.le_of_ble_eq_true rfl) ?_
  show G _ 0 [some (.inr (.inr 92)), some (.inl tone)] [] sh ct
  refine g_aload_n (q := 1) dX12_forces_0 rfl rfl ?_
  refine g_iconst (q := 2) dX12_forces_1 rfl ?_
  refine g_putI (q := 5) (kI := 0) fX12_1 (by first | assumption | exact S.at _ rfl) dX12_forces_2 rfl rfl ?_
  refine g_iload_n (q := 6) dX12_forces_5 rfl rfl ?_
  refine g_callS (q := 9) lX12_358 mX12_isTone sX12_isTone rfl (tw_isTone (d + 5) sh _ ht) shLe.rf (rmOk.mk (by omega) (by first | exact shLe.rf | assumption)) (Nat.le_of_ble_eq_true rfl) dX12_forces_6 rfl rfl (kI fun r_6 s_6 hp => ?_)
  obtain ⟨hr, hq⟩ := hp
  replace hr := hr.symm
  replace hq := hq.symm
  subst hr hq
  refine g_if_eq (q := 12) (tg := 20) dX12_forces_9 (by decide) rfl (fun c_9 => ?_) (fun c_9 => ?_)
  · refine g_bipush (q := 22) dX12_forces_20 (by decide +kernel) rfl ?_
    refine g_ireturn dX12_forces_22 rfl ?_
    first | exact ⟨_, rfl, Or.inr ⟨wb0.mp c_9, rfl⟩, mF.th⟩ | exact ⟨_, rfl, Or.inl ⟨wbn.mp c_9, hL.1⟩, (mF.th (v := 0)).tr (mF.of e2.2.2 rfl)⟩
  · refine g_aload_n (q := 13) dX12_forces_12 rfl rfl ?_
    refine g_iload_n (q := 14) dX12_forces_13 rfl rfl ?_
    refine g_callV (q := 17) lX12_427 mX12_laysGame nX12_laysGame rfl (tw_laysGame d sh _ S (M.mf mF.th) (wbn.mp c_9).1 (by have := (wbn.mp c_9).2; omega)) (by first | assumption | exact S.at _ rfl) rfl rfl shLe.rf (rmOk.mk (by omega) (by first | exact shLe.rf | assumption)) (Nat.le_of_ble_eq_true rfl) dX12_forces_14 rfl rfl (kI fun r_14 s_14 hp => ?_)
    obtain ⟨hL, e2⟩ := hp
    refine g_goto (q := 22) dX12_forces_17 (by decide) ?_
    refine g_ireturn dX12_forces_22 rfl ?_
    first | exact ⟨_, rfl, Or.inr ⟨wb0.mp c_9, rfl⟩, mF.th⟩ | exact ⟨_, rfl, Or.inl ⟨wbn.mp c_9, hL.1⟩, (mF.th (v := 0)).tr (mF.of e2.2.2 rfl)⟩
/-- the first minute by which it is forced in one less -/
def bsS (β : Bk) (mk : Int → Int) (tone st : Int) (n : Nat) (r : Int) : Prop := ∃ pre k post, brL (msN β mk st) 48 = pre ++ k :: post ∧ gP β mk tone false n (nxB β st (k / 8 : Nat) (k % 8 : Nat)) ∧ (∀ k' ∈ pre, ¬ gP β mk tone false n (nxB β st (k' / 8 : Nat) (k' % 8 : Nat))) ∧ r = mnt k
theorem bsS.uni {tone r r2 : Int} {n : Nat} (h : bsS β mk tone st n r) (h2 : bsS β mk tone st n r2) : r = r2 := by
  obtain ⟨p, k, q, a, b, c, e⟩ := h
  obtain ⟨p2, k2, q2, a2, b2, c2, e2⟩ := h2
  have := split_u (P := fun k => gP β mk tone false n (nxB β st (k / 8 : Nat) (k % 8 : Nat))) (a.symm.trans a2) c c2 b b2
  rw [e, e2, this.2]
def qBest (β : Bk) (mk : Int → Int) (tone st r : Int) : Prop := (¬ isTn tone ∧ r = -3) ∨ (isTn tone ∧ ∃ n, fcS β mk tone st n ∧ ((n ≤ 0 ∧ r = -1) ∨ (0 < n ∧ bsS β mk tone st (n - 1).toNat r)))
theorem qBest.uni {tone r r2 : Int} (h : qBest β mk tone st r) (h2 : qBest β mk tone st r2) : r = r2 := by
  rcases h with ⟨a, b⟩ | ⟨a, n, b, c⟩ <;> rcases h2 with ⟨a2, b2⟩ | ⟨a2, n2, b2, c2⟩
  · omega
  · exact absurd a2 a
  · exact absurd a a2
  · have := b.uni b2
    subst this
    rcases c with ⟨c, e⟩ | ⟨c, e⟩ <;> rcases c2 with ⟨c2, e2⟩ | ⟨c2, e2⟩
    · omega
    · omega
    · omega
    · exact e.uni e2
set_option maxRecDepth 4000 in
theorem tw_best {tone : Int} (S : SH sh) (M : MD ct β mk st) (ht : i32 tone) : Mt YX12_best (d + 7) [.inr (.inr 92), .inl tone] sh sh ct (pI fun r c => qBest β mk tone st r ∧ mF ct c) := by
  have hB := M.B
  have hrg := M.rg
  have hb2 := hB.2.2.1
  have s100 : shA sh 100 = some (20, 70000) := S.at _ rfl
  have s108 : shA sh 108 = some (20, 700) := S.at _ rfl
  generalize hP : (pI fun r c => qBest β mk tone st r ∧ mF ct c) = Po
  refine Mt.of rfl (Nat.le_of_ble_eq_true rfl) ?_
  show G _ 0 [some (.inr (.inr 92)), some (.inl tone), none, none] [] sh ct
  refine g_aload_n (q := 1) dX12_best_0 rfl rfl ?_
  refine g_iconst (q := 2) dX12_best_1 rfl ?_
  refine g_putI (q := 5) (kI := 0) fX12_1 (by first | assumption | exact S.at _ rfl) dX12_best_2 rfl rfl ?_
  refine g_iload_n (q := 6) dX12_best_5 rfl rfl ?_
  refine g_callS (q := 9) lX12_358 mX12_isTone sX12_isTone rfl (tw_isTone (d + 5) sh _ ht) shLe.rf (rmOk.mk (by omega) (by first | exact shLe.rf | assumption)) (Nat.le_of_ble_eq_true rfl) dX12_best_6 rfl rfl (kI fun r_ c_ hp => ?_)
  obtain ⟨hr, hq⟩ := hp
  replace hr := hr.symm
  replace hq := hq.symm
  subst hr hq
  refine g_if_ne (q := 12) (tg := 15) dX12_best_9 (by decide) rfl (fun c_9 => ?_) (fun c_9 => ?_)
  · have htn := wbn.mp c_9
    refine g_aload_n (q := 16) dX12_best_15 rfl rfl ?_
    refine g_iload_n (q := 17) dX12_best_16 rfl rfl ?_
    refine g_callV (q := 20) lX12_427 mX12_laysGame nX12_laysGame rfl (tw_laysGame d sh _ S (M.mf mF.th) htn.1 (by have := htn.2; omega)) (by first | assumption | exact S.at _ rfl) rfl rfl shLe.rf (rmOk.mk (by omega) (by first | exact shLe.rf | assumption)) (Nat.le_of_ble_eq_true rfl) dX12_best_17 rfl rfl (kI fun n c1 hp => ?_)
    obtain ⟨⟨hf, hn⟩, F, D, e1⟩ := hp
    have e1' := (mF.th (v := 0)).tr (mF.of e1 rfl)
    have M1 := M.mf e1'
    have L1 := M1.L
    have hn0 : -1 ≤ n := by rcases hf with h | ⟨i, h, -⟩ <;> omega
    refine s_istore_n_4_2 (q := 21) dX12_best_20 rfl rfl rfl ?_
    refine g_iload_n (q := 22) dX12_best_21 rfl rfl ?_
    refine g_if_gt (q := 25) (tg := 27) dX12_best_22 (by decide) rfl (fun c_22 => ?_) (fun c_22 => ?_)
    · have hpos : 0 < n := by unfold w32 at c_22; omega
      obtain ⟨i, hi, hg, hmin⟩ : ∃ i : Nat, n = i ∧ gP β mk tone true i st ∧ ∀ m, m < i → ¬ gP β mk tone true m st := by
        rcases hf with h | h
        · omega
        · exact h
      obtain ⟨j, rfl⟩ : ∃ j, i = j + 1 := ⟨i - 1, by omega⟩
      have hnen : ¬ gP β mk tone true 0 st := hmin 0 (by omega)
      have hjn : (n - 1).toNat = j := by omega
      have hex : ∃ y ∈ scG β mk st, gP β mk tone false j y := by
        rcases hg with h | h
        · exact absurd h hnen
        · exact h
      have val : ∀ y ∈ scG β mk st, (c1 108 y = n - 1 ↔ gP β mk tone false j y) ∧ 0 ≤ c1 108 y ∧ c1 108 y ≤ 268435456 := by
        intro y hy
        have hF : (c1 108 y = 268435456 ∧ ∀ m, ¬ gP β mk tone false m y) ∨ ∃ i : Nat, i ≤ 1400 ∧ c1 108 y = i ∧ gP β mk tone false i y ∧ ∀ m, m < i → ¬ gP β mk tone false m y := F false y (scG_in hy).1 (scG_in hy).2
        rcases hF with ⟨a, b⟩ | ⟨i, a, b, e, g⟩
        · refine ⟨⟨fun z => by omega, fun z => absurd z (b j)⟩, by omega, by omega⟩
        · refine ⟨⟨fun z => ?_, fun z => ?_⟩, by omega, by omega⟩
          · rw [show j = i by omega]
            exact e
          · have h1 : i ≤ j := Nat.le_of_not_lt (fun h => g j h z)
            have h2 : ¬ i < j := fun h => hmin (i + 1) (by omega) (Or.inr ⟨y, hy, e⟩)
            omega
      obtain ⟨yg, hyg, hgg⟩ := hex
      obtain ⟨vg, vg0, vg1, vgl, rfl⟩ := (scG_ld hB).mp hyg
      refine g_iconst (q := 28) dX12_best_27 rfl ?_
      refine s_istore_n_4_3 (q := 29) dX12_best_28 rfl rfl rfl ?_
      refine g_for (fun v => [some (.inr (.inr 92)), some (.inl tone), some (.inl n), some (.inl v)]) (fun v c => c = c1 ∧ 0 ≤ v ∧ v ≤ vg ∧ ∀ u, 0 ≤ u → u < v → ldP β mk (-1) (-1) 9 st u → ¬ gP β mk tone false j (nxB β st (u / 10) (u % 10))) 60 ?_ ?_ (i := 0) (by omega) ⟨rfl, by omega, vg0, fun u _ _ => by omega⟩ (by simp [lsSub])
      · rintro v c hv ⟨rfl, v0, hvg, hno⟩ kk
        have hld := D.at hrg.1 hrg.2 v0 (by omega)
        have hp := ldV_p (β := β) (mk := mk) (qu := -1) (un := -1) (mo := 9) (x := st) v0
        have go : ¬ (ldP β mk (-1) (-1) 9 st v ∧ gP β mk tone false j (nxB β st (v / 10) (v % 10))) → G (mkK YX12_best (d + 7) sh sh Po) 72 [some (.inr (.inr 92)), some (.inl tone), some (.inl n), some (.inl v)] [] sh c := by
          intro h
          refine s_iinc_4_3 (q := 75) dX12_best_72 rfl rfl rfl ?_
          refine g_goto (q := 29) dX12_best_75 (by decide) ?_
          refine kk _ _ (by simp [lsSub]) ⟨rfl, by omega, ?_, fun u a0 a1 a2 => ?_⟩
          · rcases Int.lt_trichotomy v vg with h3 | h3 | h3
            · omega
            · subst h3
              exact absurd ⟨vgl, hgg⟩ h
            · omega
          · by_cases hu : u = v
            · subst hu
              exact fun z => h ⟨a2, z⟩
            · exact hno u a0 (by omega) a2
        refine g_aload_n (q := 30) dX12_best_29 rfl rfl ?_
        refine g_getA (q := 33) (kI := 21) fX12_40 (by first | assumption | exact S.at _ rfl) dX12_best_30 rfl rfl (by first | assumption | exact L.at _ _ rfl | exact LK.at (by assumption) _ _ rfl | ((repeat first | rewrite [wr_na (by decide)] | rewrite [wr_nk (by decide)] | rewrite [wa_na (by decide)]); first | assumption | exact LK.at (by assumption) _ _ rfl) | exact rfl) ?_
        refine g_bipush (q := 35) dX12_best_33 (by decide +kernel) rfl ?_
        refine g_aload_n (q := 36) dX12_best_35 rfl rfl ?_
        refine g_callV (q := 39) lX12_251 mX12_standNow nX12_standNow rfl (tw_standNow (d + 6) sh _ M1 S) (by first | assumption | exact S.at _ rfl) rfl rfl shLe.rf (rmOk.mk (by omega) (by first | exact shLe.rf | assumption)) (Nat.le_of_ble_eq_true rfl) dX12_best_36 rfl rfl (kI fun r_ c_ hp => ?_)
        obtain ⟨hr, hq⟩ := hp
        replace hr := hr.symm
        replace hq := hq.symm
        subst hr hq
        refine g_imul (q := 40) dX12_best_39 rfl ?_
        refine g_iload_n (q := 41) dX12_best_40 rfl rfl ?_
        refine g_iadd (q := 42) dX12_best_41 rfl ?_
        refine g_iaload (q := 43) (by first | assumption | exact S.at _ rfl) (by omega) (by omega) (by omega) dX12_best_42 rfl ?_
        rw [hld]
        by_cases hq : ldP β mk (-1) (-1) 9 st v
        · rw [hp.2 hq]
          have hnx := nxB_in (β := β) (st := st) (m := v / 10) (s := v % 10) (by omega) (by have := hq.1.1; omega)
          have hval := val _ ((scG_ld hB).mpr ⟨v, v0, hv, hq, rfl⟩)
          refine g_iconst (q := 44) dX12_best_43 rfl ?_
          refine g_icmp_eq (q := 47) (tg := 72) dX12_best_44 (by decide) rfl (fun c_44 => ?_) (fun c_44 => ?_)
          · exact absurd c_44 (by unfold w32; omega)
          · refine g_aload_n (q := 48) dX12_best_47 rfl rfl ?_
            refine g_getA (q := 51) (kI := 29) fX12_66 (by first | assumption | exact S.at _ rfl) dX12_best_48 rfl rfl (by first | assumption | exact L.at _ _ rfl | exact LK.at (by assumption) _ _ rfl | ((repeat first | rewrite [wr_na (by decide)] | rewrite [wr_nk (by decide)] | rewrite [wa_na (by decide)]); first | assumption | exact LK.at (by assumption) _ _ rfl) | exact rfl) ?_
            refine g_aload_n (q := 52) dX12_best_51 rfl rfl ?_
            refine g_getA (q := 55) (kI := 21) fX12_40 (by first | assumption | exact S.at _ rfl) dX12_best_52 rfl rfl (by first | assumption | exact L.at _ _ rfl | exact LK.at (by assumption) _ _ rfl | ((repeat first | rewrite [wr_na (by decide)] | rewrite [wr_nk (by decide)] | rewrite [wa_na (by decide)]); first | assumption | exact LK.at (by assumption) _ _ rfl) | exact rfl) ?_
            refine g_bipush (q := 57) dX12_best_55 (by decide +kernel) rfl ?_
            refine g_aload_n (q := 58) dX12_best_57 rfl rfl ?_
            refine g_callV (q := 61) lX12_251 mX12_standNow nX12_standNow rfl (tw_standNow (d + 6) sh _ M1 S) (by first | assumption | exact S.at _ rfl) rfl rfl shLe.rf (rmOk.mk (by omega) (by first | exact shLe.rf | assumption)) (Nat.le_of_ble_eq_true rfl) dX12_best_58 rfl rfl (kI fun r_ c_ hp => ?_)
            obtain ⟨hr, hq⟩ := hp
            replace hr := hr.symm
            replace hq := hq.symm
            subst hr hq
            refine g_imul (q := 62) dX12_best_61 rfl ?_
            refine g_iload_n (q := 63) dX12_best_62 rfl rfl ?_
            refine g_iadd (q := 64) dX12_best_63 rfl ?_
            refine g_iaload (q := 65) (by first | assumption | exact S.at _ rfl) (by omega) (by omega) (by omega) dX12_best_64 rfl ?_
            rw [hld, hp.2 hq]
            refine g_iaload (q := 66) (by first | assumption | exact S.at _ rfl) (by omega) (by omega) (by omega) dX12_best_65 rfl ?_
            refine g_iload_n (q := 67) dX12_best_66 rfl rfl ?_
            refine g_iconst (q := 68) dX12_best_67 rfl ?_
            refine g_isub (q := 69) dX12_best_68 rfl ?_
            refine g_icmp_eq (q := 72) (tg := 78) dX12_best_69 (by decide) rfl (fun c_69 => ?_) (fun c_69 => ?_)
            · have heq := hval.1.mp (by unfold w32 at c_69; omega)
              refine g_iload_n (q := 79) dX12_best_78 rfl rfl ?_
              refine g_ireturn dX12_best_79 rfl ?_
              rw [← hP]
              refine ⟨_, rfl, Or.inr ⟨htn, n, hf, Or.inr ⟨hpos, ?_⟩⟩, e1'⟩
              rw [hjn]
              obtain ⟨k, hk, rfl, hk1, hk2⟩ := ld_in hB v0 hq
              have e0 : alwN 0 β mk st 0 = msN β mk st := by
                unfold alwN
                rw [if_neg (by simp)]
              have hmem := (br_ld hB st 0 k).mpr ⟨hk, hq⟩
              rw [e0] at hmem
              obtain ⟨post, hs⟩ := br_split hk (brL_mem.mp hmem).2
              refine ⟨_, k, post, hs, by rw [hk1, hk2]; exact heq, fun k' hk' => ?_, rfl⟩
              obtain ⟨a, b⟩ := brL_mem.mp hk'
              have h48 : k' < 48 := by omega
              obtain ⟨a1, a2, a3, a4⟩ := mnt_in h48
              have hl' := ((br_ld (mk := mk) hB st 0 k').mp (by rw [e0]; exact brL_mem.mpr ⟨h48, b⟩)).2
              have := hno (mnt k') a1 (mnt_lt a) hl'
              rw [a3, a4] at this
              exact this
            · exact go (fun z => c_69 (by rw [hval.1.mpr z.2]))
        · rw [hp.1.mpr hq]
          refine g_iconst (q := 44) dX12_best_43 rfl ?_
          refine g_icmp_eq (q := 47) (tg := 72) dX12_best_44 (by decide) rfl (fun c_44 => ?_) (fun c_44 => ?_)
          · exact go (fun z => hq z.1)
          · exact absurd rfl c_44
      · rintro c ⟨-, -, h60, -⟩
        omega
    · refine g_iconst (q := 26) dX12_best_25 rfl ?_
      refine g_ireturn dX12_best_26 rfl ?_
      rw [← hP]
      exact ⟨_, rfl, Or.inr ⟨htn, n, hf, Or.inl ⟨by unfold w32 at c_22; omega, rfl⟩⟩, e1'⟩
  · refine g_bipush (q := 14) dX12_best_12 (by decide +kernel) rfl ?_
    refine g_ireturn dX12_best_14 rfl ?_
    rw [← hP]
    exact ⟨_, rfl, Or.inl ⟨wb0.mp c_9, rfl⟩, mF.th⟩
theorem tw_power (S : SH sh) (M : MD ct β mk st) : Mt YX12_power (d + 7) [.inr (.inr 92)] sh sh ct (pI fun r c => isSet 10 (fun t => ∃ m, gP β mk t true m st) r ∧ mF ct c) := by
  generalize hP : (pI fun r c => isSet 10 (fun t => ∃ m, gP β mk t true m st) r ∧ mF ct c) = Po
  refine Mt.of rfl (Nat.le_of_ble_eq_true rfl) ?_
  show G _ 0 [some (.inr (.inr 92)), none, none] [] sh ct
  refine g_aload_n (q := 1) dX12_power_0 rfl rfl ?_
  refine g_iconst (q := 2) dX12_power_1 rfl ?_
  refine g_putI (q := 5) (kI := 0) fX12_1 (by first | assumption | exact S.at _ rfl) dX12_power_2 rfl rfl ?_
  refine g_iconst (q := 6) dX12_power_5 rfl ?_
  refine s_istore_n_3_1 (q := 7) dX12_power_6 rfl rfl rfl ?_
  refine g_iconst (q := 8) dX12_power_7 rfl ?_
  refine s_istore_n_3_2 (q := 9) dX12_power_8 rfl rfl rfl ?_
  refine g_forA (α := Int) (fun t a => [some (.inr (.inr 92)), some (.inl a), some (.inl t)]) (fun t a c => 0 ≤ t ∧ mF ct c ∧ isSet t.toNat (fun t => ∃ m, gP β mk t true m st) a) 10 ?_ ?_ (i := 0) (a := 0) (by omega) ⟨by omega, mF.th, isSet.zero⟩ (by simp [lsSub])
  · rintro t a c ht ⟨t0, e, hs⟩ kk
    have M2 := M.mf e
    refine g_iload_n (q := 10) dX12_power_9 rfl rfl ?_
    refine g_bipush (q := 12) dX12_power_10 (by decide +kernel) rfl ?_
    refine g_icmp_ge (q := 15) (tg := 40) dX12_power_12 (by decide) rfl (fun c_12 => ?_) (fun c_12 => ?_)
    · exact absurd c_12 (by unfold w32; omega)
    · refine g_iload_n (q := 16) dX12_power_15 rfl rfl ?_
      refine g_aload_n (q := 17) dX12_power_16 rfl rfl ?_
      refine g_iload_n (q := 18) dX12_power_17 rfl rfl ?_
      refine g_callV (q := 21) lX12_427 mX12_laysGame nX12_laysGame rfl (tw_laysGame d sh _ S M2 (by omega) (by omega)) (by first | assumption | exact S.at _ rfl) rfl rfl shLe.rf (rmOk.mk (by omega) (by first | exact shLe.rf | assumption)) (Nat.le_of_ble_eq_true rfl) dX12_power_18 rfl rfl (kI fun r2 c2 hp => ?_)
      obtain ⟨⟨hf, hn⟩, -, -, e2⟩ := hp
      have hn0 : -1 ≤ r2 := by rcases hf with h | ⟨i, h, -⟩ <;> omega
      have em : ((t.toNat : Nat) : Int) = t := by omega
      have nxt : ∀ v, (((∃ m, gP β mk t.toNat true m st) ∧ v = shlI 1 t.toNat) ∨ (¬ (∃ m, gP β mk t.toNat true m st) ∧ v = 0)) → G (mkK YX12_power (d + 7) sh sh Po) 32 [some (.inr (.inr 92)), some (.inl a), some (.inl t)] [.inl v, .inl a] sh c2 := by
        intro v hv
        refine g_ior (q := 33) dX12_power_32 rfl ?_
        refine s_istore_n_3_1 (q := 34) dX12_power_33 rfl rfl rfl ?_
        refine s_iinc_3_2 (q := 37) dX12_power_34 rfl rfl rfl ?_
        refine g_goto (q := 9) dX12_power_37 (by decide) ?_
        refine kk _ _ _ (by simp [lsSub]; rfl) ⟨by omega, e.tr (mF.of e2 rfl), ?_⟩
        rw [show (t + 1).toNat = t.toNat + 1 by omega]
        exact hs.up (by omega) hv
      refine g_iconst (q := 22) dX12_power_21 rfl ?_
      refine g_icmp_ne (q := 25) (tg := 29) dX12_power_22 (by decide) rfl (fun c_22 => ?_) (fun c_22 => ?_)
      · refine g_iconst (q := 30) dX12_power_29 rfl ?_
        refine g_iload_n (q := 31) dX12_power_30 rfl rfl ?_
        refine g_ishl (q := 32) dX12_power_31 rfl ?_
        refine nxt _ (Or.inl ⟨?_, by rw [em]⟩)
        rw [em]
        rcases hf with h | ⟨i, h1, h2, -⟩
        · exact absurd (by rw [h.1]) c_22
        · exact ⟨i, h2⟩
      · refine g_iconst (q := 26) dX12_power_25 rfl ?_
        refine g_goto (q := 32) dX12_power_26 (by decide) ?_
        refine nxt _ (Or.inr ⟨?_, rfl⟩)
        rw [em]
        rintro ⟨m, hm⟩
        rcases hf with h | ⟨i, h1, h2, -⟩
        · exact h.2 m hm
        · unfold w32 at c_22
          omega
  · rintro a c ⟨-, e, hs⟩
    refine g_iload_n (q := 10) dX12_power_9 rfl rfl ?_
    refine g_bipush (q := 12) dX12_power_10 (by decide +kernel) rfl ?_
    refine g_icmp_ge (q := 15) (tg := 40) dX12_power_12 (by decide) rfl (fun c_12 => ?_) (fun c_12 => ?_)
    · refine g_iload_n (q := 41) dX12_power_40 rfl rfl ?_
      refine g_ireturn dX12_power_41 rfl ?_
      rw [← hP]
      exact ⟨_, rfl, hs, e⟩
    · exact absurd c_12 (by decide)
end
theorem dX12_powerOf_0 : decode cX12_powerOf 0 = .ok (.lconst 1, 1) := by decide +kernel
theorem dX12_powerOf_1 : decode cX12_powerOf 1 = .ok (.lstore_n 2, 1) := by decide +kernel
theorem dX12_powerOf_2 : decode cX12_powerOf 2 = .ok (.iconst 0, 1) := by decide +kernel
theorem dX12_powerOf_3 : decode cX12_powerOf 3 = .ok (.istore 4, 2) := by decide +kernel
theorem dX12_powerOf_5 : decode cX12_powerOf 5 = .ok (.iload 4, 2) := by decide +kernel
theorem dX12_powerOf_7 : decode cX12_powerOf 7 = .ok (.iload_n 1, 1) := by decide +kernel
theorem dX12_powerOf_8 : decode cX12_powerOf 8 = .ok (.if_icmp .ge 14, 3) := by decide +kernel
theorem dX12_powerOf_11 : decode cX12_powerOf 11 = .ok (.lload_n 2, 1) := by decide +kernel
theorem dX12_powerOf_12 : decode cX12_powerOf 12 = .ok (.iload_n 0, 1) := by decide +kernel
theorem dX12_powerOf_13 : decode cX12_powerOf 13 = .ok (.i2l, 1) := by decide +kernel
theorem dX12_powerOf_14 : decode cX12_powerOf 14 = .ok (.lmul, 1) := by decide +kernel
theorem dX12_powerOf_15 : decode cX12_powerOf 15 = .ok (.lstore_n 2, 1) := by decide +kernel
theorem dX12_powerOf_16 : decode cX12_powerOf 16 = .ok (.iinc 4 1, 3) := by decide +kernel
theorem dX12_powerOf_19 : decode cX12_powerOf 19 = .ok (.goto (-14), 3) := by decide +kernel
theorem dX12_powerOf_22 : decode cX12_powerOf 22 = .ok (.lload_n 2, 1) := by decide +kernel
theorem dX12_powerOf_23 : decode cX12_powerOf 23 = .ok (.lreturn, 1) := by decide +kernel
theorem dX12_common_0 : decode cX12_common 0 = .ok (.lload_n 2, 1) := by decide +kernel
theorem dX12_common_1 : decode cX12_common 1 = .ok (.lconst 0, 1) := by decide +kernel
theorem dX12_common_2 : decode cX12_common 2 = .ok (.lcmp, 1) := by decide +kernel
theorem dX12_common_3 : decode cX12_common 3 = .ok (.ifCond .ne 7, 3) := by decide +kernel
theorem dX12_common_6 : decode cX12_common 6 = .ok (.lload_n 0, 1) := by decide +kernel
theorem dX12_common_7 : decode cX12_common 7 = .ok (.goto 10, 3) := by decide +kernel
theorem dX12_common_10 : decode cX12_common 10 = .ok (.lload_n 2, 1) := by decide +kernel
theorem dX12_common_11 : decode cX12_common 11 = .ok (.lload_n 0, 1) := by decide +kernel
theorem dX12_common_12 : decode cX12_common 12 = .ok (.lload_n 2, 1) := by decide +kernel
theorem dX12_common_13 : decode cX12_common 13 = .ok (.lrem, 1) := by decide +kernel
theorem dX12_common_14 : decode cX12_common 14 = .ok (.invokestatic 430, 3) := by decide +kernel
theorem dX12_common_17 : decode cX12_common 17 = .ok (.lreturn, 1) := by decide +kernel
theorem dX12_stroke_0 : decode cX12_stroke 0 = .ok (.aload_n 0, 1) := by decide +kernel
theorem dX12_stroke_1 : decode cX12_stroke 1 = .ok (.iconst 0, 1) := by decide +kernel
theorem dX12_stroke_2 : decode cX12_stroke 2 = .ok (.putfield 1, 3) := by decide +kernel
theorem dX12_stroke_5 : decode cX12_stroke 5 = .ok (.iload_n 2, 1) := by decide +kernel
theorem dX12_stroke_6 : decode cX12_stroke 6 = .ok (.i2l, 1) := by decide +kernel
theorem dX12_stroke_7 : decode cX12_stroke 7 = .ok (.lconst 0, 1) := by decide +kernel
theorem dX12_stroke_8 : decode cX12_stroke 8 = .ok (.lconst 1, 1) := by decide +kernel
theorem dX12_stroke_9 : decode cX12_stroke 9 = .ok (.invokestatic 150, 3) := by decide +kernel
theorem dX12_stroke_12 : decode cX12_stroke 12 = .ok (.ifCond .ne 7, 3) := by decide +kernel
theorem dX12_stroke_15 : decode cX12_stroke 15 = .ok (.ldc2_w 434, 3) := by decide +kernel
theorem dX12_stroke_18 : decode cX12_stroke 18 = .ok (.lreturn, 1) := by decide +kernel
theorem dX12_stroke_19 : decode cX12_stroke 19 = .ok (.iload_n 1, 1) := by decide +kernel
theorem dX12_stroke_20 : decode cX12_stroke 20 = .ok (.invokestatic 358, 3) := by decide +kernel
theorem dX12_stroke_23 : decode cX12_stroke 23 = .ok (.ifCond .ne 7, 3) := by decide +kernel
theorem dX12_stroke_26 : decode cX12_stroke 26 = .ok (.ldc2_w 367, 3) := by decide +kernel
theorem dX12_stroke_29 : decode cX12_stroke 29 = .ok (.lreturn, 1) := by decide +kernel
theorem dX12_stroke_30 : decode cX12_stroke 30 = .ok (.aload_n 0, 1) := by decide +kernel
theorem dX12_stroke_31 : decode cX12_stroke 31 = .ok (.iload_n 1, 1) := by decide +kernel
theorem dX12_stroke_32 : decode cX12_stroke 32 = .ok (.invokevirtual 361, 3) := by decide +kernel
theorem dX12_stroke_35 : decode cX12_stroke 35 = .ok (.istore_n 3, 1) := by decide +kernel
theorem dX12_stroke_36 : decode cX12_stroke 36 = .ok (.iload_n 3, 1) := by decide +kernel
theorem dX12_stroke_37 : decode cX12_stroke 37 = .ok (.iconst (-1), 1) := by decide +kernel
theorem dX12_stroke_38 : decode cX12_stroke 38 = .ok (.if_icmp .ne 7, 3) := by decide +kernel
theorem dX12_stroke_41 : decode cX12_stroke 41 = .ok (.ldc2_w 291, 3) := by decide +kernel
theorem dX12_stroke_44 : decode cX12_stroke 44 = .ok (.lreturn, 1) := by decide +kernel
theorem dX12_stroke_45 : decode cX12_stroke 45 = .ok (.iload_n 3, 1) := by decide +kernel
theorem dX12_stroke_46 : decode cX12_stroke 46 = .ok (.bipush 16, 2) := by decide +kernel
theorem dX12_stroke_48 : decode cX12_stroke 48 = .ok (.if_icmp .le 7, 3) := by decide +kernel
theorem dX12_stroke_51 : decode cX12_stroke 51 = .ok (.ldc2_w 436, 3) := by decide +kernel
theorem dX12_stroke_54 : decode cX12_stroke 54 = .ok (.lreturn, 1) := by decide +kernel
theorem dX12_stroke_55 : decode cX12_stroke 55 = .ok (.iload_n 3, 1) := by decide +kernel
theorem dX12_stroke_56 : decode cX12_stroke 56 = .ok (.iconst 1, 1) := by decide +kernel
theorem dX12_stroke_57 : decode cX12_stroke 57 = .ok (.if_icmp .le 9, 3) := by decide +kernel
theorem dX12_stroke_60 : decode cX12_stroke 60 = .ok (.iload_n 3, 1) := by decide +kernel
theorem dX12_stroke_61 : decode cX12_stroke 61 = .ok (.iconst 1, 1) := by decide +kernel
theorem dX12_stroke_62 : decode cX12_stroke 62 = .ok (.isub, 1) := by decide +kernel
theorem dX12_stroke_63 : decode cX12_stroke 63 = .ok (.goto 4, 3) := by decide +kernel
theorem dX12_stroke_66 : decode cX12_stroke 66 = .ok (.iconst 0, 1) := by decide +kernel
theorem dX12_stroke_67 : decode cX12_stroke 67 = .ok (.istore 4, 2) := by decide +kernel
theorem dX12_stroke_69 : decode cX12_stroke 69 = .ok (.bipush 10, 2) := by decide +kernel
theorem dX12_stroke_71 : decode cX12_stroke 71 = .ok (.aload_n 0, 1) := by decide +kernel
theorem dX12_stroke_72 : decode cX12_stroke 72 = .ok (.getfield 13, 3) := by decide +kernel
theorem dX12_stroke_75 : decode cX12_stroke 75 = .ok (.iconst 5, 1) := by decide +kernel
theorem dX12_stroke_76 : decode cX12_stroke 76 = .ok (.iaload, 1) := by decide +kernel
theorem dX12_stroke_77 : decode cX12_stroke 77 = .ok (.isub, 1) := by decide +kernel
theorem dX12_stroke_78 : decode cX12_stroke 78 = .ok (.iload 4, 2) := by decide +kernel
theorem dX12_stroke_80 : decode cX12_stroke 80 = .ok (.invokestatic 438, 3) := by decide +kernel
theorem dX12_stroke_83 : decode cX12_stroke 83 = .ok (.lstore 5, 2) := by decide +kernel
theorem dX12_stroke_85 : decode cX12_stroke 85 = .ok (.lload 5, 2) := by decide +kernel
theorem dX12_stroke_87 : decode cX12_stroke 87 = .ok (.bipush 10, 2) := by decide +kernel
theorem dX12_stroke_89 : decode cX12_stroke 89 = .ok (.iload 4, 2) := by decide +kernel
theorem dX12_stroke_91 : decode cX12_stroke 91 = .ok (.invokestatic 438, 3) := by decide +kernel
theorem dX12_stroke_94 : decode cX12_stroke 94 = .ok (.invokestatic 430, 3) := by decide +kernel
theorem dX12_stroke_97 : decode cX12_stroke 97 = .ok (.lstore 7, 2) := by decide +kernel
theorem dX12_stroke_99 : decode cX12_stroke 99 = .ok (.iload_n 2, 1) := by decide +kernel
theorem dX12_stroke_100 : decode cX12_stroke 100 = .ok (.ifCond .ne 8, 3) := by decide +kernel
theorem dX12_stroke_103 : decode cX12_stroke 103 = .ok (.lload 5, 2) := by decide +kernel
theorem dX12_stroke_105 : decode cX12_stroke 105 = .ok (.goto 10, 3) := by decide +kernel
theorem dX12_stroke_108 : decode cX12_stroke 108 = .ok (.bipush 10, 2) := by decide +kernel
theorem dX12_stroke_110 : decode cX12_stroke 110 = .ok (.iload 4, 2) := by decide +kernel
theorem dX12_stroke_112 : decode cX12_stroke 112 = .ok (.invokestatic 438, 3) := by decide +kernel
theorem dX12_stroke_115 : decode cX12_stroke 115 = .ok (.lload 7, 2) := by decide +kernel
theorem dX12_stroke_117 : decode cX12_stroke 117 = .ok (.ldiv, 1) := by decide +kernel
theorem dX12_stroke_118 : decode cX12_stroke 118 = .ok (.lreturn, 1) := by decide +kernel
theorem dX12_badness_0 : decode cX12_badness 0 = .ok (.iload_n 1, 1) := by decide +kernel
theorem dX12_badness_1 : decode cX12_badness 1 = .ok (.iconst 1, 1) := by decide +kernel
theorem dX12_badness_2 : decode cX12_badness 2 = .ok (.if_icmp .le 9, 3) := by decide +kernel
theorem dX12_badness_5 : decode cX12_badness 5 = .ok (.iload_n 1, 1) := by decide +kernel
theorem dX12_badness_6 : decode cX12_badness 6 = .ok (.iconst 1, 1) := by decide +kernel
theorem dX12_badness_7 : decode cX12_badness 7 = .ok (.isub, 1) := by decide +kernel
theorem dX12_badness_8 : decode cX12_badness 8 = .ok (.goto 4, 3) := by decide +kernel
theorem dX12_badness_11 : decode cX12_badness 11 = .ok (.iconst 0, 1) := by decide +kernel
theorem dX12_badness_12 : decode cX12_badness 12 = .ok (.istore_n 2, 1) := by decide +kernel
theorem dX12_badness_13 : decode cX12_badness 13 = .ok (.aload_n 0, 1) := by decide +kernel
theorem dX12_badness_14 : decode cX12_badness 14 = .ok (.getfield 13, 3) := by decide +kernel
theorem dX12_badness_17 : decode cX12_badness 17 = .ok (.iconst 5, 1) := by decide +kernel
theorem dX12_badness_18 : decode cX12_badness 18 = .ok (.iaload, 1) := by decide +kernel
theorem dX12_badness_19 : decode cX12_badness 19 = .ok (.ifCond .ne 7, 3) := by decide +kernel
theorem dX12_badness_22 : decode cX12_badness 22 = .ok (.iconst 0, 1) := by decide +kernel
theorem dX12_badness_23 : decode cX12_badness 23 = .ok (.goto 27, 3) := by decide +kernel
theorem dX12_badness_26 : decode cX12_badness 26 = .ok (.aload_n 0, 1) := by decide +kernel
theorem dX12_badness_27 : decode cX12_badness 27 = .ok (.getfield 13, 3) := by decide +kernel
theorem dX12_badness_30 : decode cX12_badness 30 = .ok (.iconst 5, 1) := by decide +kernel
theorem dX12_badness_31 : decode cX12_badness 31 = .ok (.iaload, 1) := by decide +kernel
theorem dX12_badness_32 : decode cX12_badness 32 = .ok (.bipush 10, 2) := by decide +kernel
theorem dX12_badness_34 : decode cX12_badness 34 = .ok (.if_icmp .ne 15, 3) := by decide +kernel
theorem dX12_badness_37 : decode cX12_badness 37 = .ok (.iload_n 2, 1) := by decide +kernel
theorem dX12_badness_38 : decode cX12_badness 38 = .ok (.ifCond .le 7, 3) := by decide +kernel
theorem dX12_badness_41 : decode cX12_badness 41 = .ok (.iconst 1, 1) := by decide +kernel
theorem dX12_badness_42 : decode cX12_badness 42 = .ok (.goto 8, 3) := by decide +kernel
theorem dX12_badness_45 : decode cX12_badness 45 = .ok (.iconst 0, 1) := by decide +kernel
theorem dX12_badness_46 : decode cX12_badness 46 = .ok (.goto 4, 3) := by decide +kernel
theorem dX12_badness_49 : decode cX12_badness 49 = .ok (.iload_n 2, 1) := by decide +kernel
theorem dX12_badness_50 : decode cX12_badness 50 = .ok (.ireturn, 1) := by decide +kernel
theorem dX12_likeliest_0 : decode cX12_likeliest 0 = .ok (.aload_n 0, 1) := by decide +kernel
theorem dX12_likeliest_1 : decode cX12_likeliest 1 = .ok (.iconst 0, 1) := by decide +kernel
theorem dX12_likeliest_2 : decode cX12_likeliest 2 = .ok (.putfield 1, 3) := by decide +kernel
theorem dX12_likeliest_5 : decode cX12_likeliest 5 = .ok (.aload_n 0, 1) := by decide +kernel
theorem dX12_likeliest_6 : decode cX12_likeliest 6 = .ok (.invokevirtual 351, 3) := by decide +kernel
theorem dX12_likeliest_9 : decode cX12_likeliest 9 = .ok (.iconst (-1), 1) := by decide +kernel
theorem dX12_likeliest_10 : decode cX12_likeliest 10 = .ok (.istore_n 1, 1) := by decide +kernel
theorem dX12_likeliest_11 : decode cX12_likeliest 11 = .ok (.ldc_w 334, 3) := by decide +kernel
theorem dX12_likeliest_14 : decode cX12_likeliest 14 = .ok (.istore_n 2, 1) := by decide +kernel
theorem dX12_likeliest_15 : decode cX12_likeliest 15 = .ok (.iconst 0, 1) := by decide +kernel
theorem dX12_likeliest_16 : decode cX12_likeliest 16 = .ok (.istore_n 3, 1) := by decide +kernel
theorem dX12_likeliest_17 : decode cX12_likeliest 17 = .ok (.iload_n 3, 1) := by decide +kernel
theorem dX12_likeliest_18 : decode cX12_likeliest 18 = .ok (.bipush 10, 2) := by decide +kernel
theorem dX12_likeliest_20 : decode cX12_likeliest 20 = .ok (.if_icmp .ge 45, 3) := by decide +kernel
theorem dX12_likeliest_23 : decode cX12_likeliest 23 = .ok (.aload_n 0, 1) := by decide +kernel
theorem dX12_likeliest_24 : decode cX12_likeliest 24 = .ok (.iload_n 3, 1) := by decide +kernel
theorem dX12_likeliest_25 : decode cX12_likeliest 25 = .ok (.iconst 0, 1) := by decide +kernel
theorem dX12_likeliest_26 : decode cX12_likeliest 26 = .ok (.invokevirtual 354, 3) := by decide +kernel
theorem dX12_likeliest_29 : decode cX12_likeliest 29 = .ok (.istore 4, 2) := by decide +kernel
theorem dX12_likeliest_31 : decode cX12_likeliest 31 = .ok (.iload 4, 2) := by decide +kernel
theorem dX12_likeliest_33 : decode cX12_likeliest 33 = .ok (.iconst (-1), 1) := by decide +kernel
theorem dX12_likeliest_34 : decode cX12_likeliest 34 = .ok (.if_icmp .eq 25, 3) := by decide +kernel
theorem dX12_likeliest_37 : decode cX12_likeliest 37 = .ok (.aload_n 0, 1) := by decide +kernel
theorem dX12_likeliest_38 : decode cX12_likeliest 38 = .ok (.iload 4, 2) := by decide +kernel
theorem dX12_likeliest_40 : decode cX12_likeliest 40 = .ok (.invokevirtual 442, 3) := by decide +kernel
theorem dX12_likeliest_43 : decode cX12_likeliest 43 = .ok (.iload_n 2, 1) := by decide +kernel
theorem dX12_likeliest_44 : decode cX12_likeliest 44 = .ok (.if_icmp .lt 6, 3) := by decide +kernel
theorem dX12_likeliest_47 : decode cX12_likeliest 47 = .ok (.goto 12, 3) := by decide +kernel
theorem dX12_likeliest_50 : decode cX12_likeliest 50 = .ok (.iload_n 3, 1) := by decide +kernel
theorem dX12_likeliest_51 : decode cX12_likeliest 51 = .ok (.istore_n 1, 1) := by decide +kernel
theorem dX12_likeliest_52 : decode cX12_likeliest 52 = .ok (.aload_n 0, 1) := by decide +kernel
theorem dX12_likeliest_53 : decode cX12_likeliest 53 = .ok (.iload 4, 2) := by decide +kernel
theorem dX12_likeliest_55 : decode cX12_likeliest 55 = .ok (.invokevirtual 442, 3) := by decide +kernel
theorem dX12_likeliest_58 : decode cX12_likeliest 58 = .ok (.istore_n 2, 1) := by decide +kernel
theorem dX12_likeliest_59 : decode cX12_likeliest 59 = .ok (.iinc 3 1, 3) := by decide +kernel
theorem dX12_likeliest_62 : decode cX12_likeliest 62 = .ok (.goto (-45), 3) := by decide +kernel
theorem dX12_likeliest_65 : decode cX12_likeliest 65 = .ok (.iload_n 1, 1) := by decide +kernel
theorem dX12_likeliest_66 : decode cX12_likeliest 66 = .ok (.ireturn, 1) := by decide +kernel
section
variable (d : Nat) (sh : mbSh) (ct : mbCt) {β : Bk} {mk : Int → Int} {st : Int}
theorem tw_powerOf {b : Int} {n : Nat} (hb : 0 ≤ b ∧ b ≤ 10) (hn : n ≤ 100) : Mt YX12_powerOf d [.inl b, .inl n] sh sh ct (pL fun r c => r = b ^ n ∧ c = ct) := by
  refine Mt.of rfl (Nat.le_of_ble_eq_true rfl) ?_
  show G _ 0 [some (.inl b), some (.inl (n : Int)), none, none, none] [] sh ct
  refine g_lconst1 (q := 1) dX12_powerOf_0 rfl ?_
  refine s_lstore_n_5_2 (q := 2) dX12_powerOf_1 rfl rfl rfl ?_
  refine g_iconst (q := 3) dX12_powerOf_2 rfl ?_
  refine s_istore_5_4 (q := 5) dX12_powerOf_3 rfl rfl rfl ?_
  refine g_for (fun k => [some (.inl b), some (.inl n), some (.inr (.inl (b ^ k.toNat))), none, some (.inl k)]) (fun k c => 0 ≤ k ∧ c = ct) n ?_ ?_ (i := 0) (by omega) ⟨by omega, rfl⟩ (by simp [lsSub])
  · rintro k c hk ⟨k0, hc⟩ kk
    subst hc
    refine g_iload (q := 7) dX12_powerOf_5 rfl rfl ?_
    refine g_iload_n (q := 8) dX12_powerOf_7 rfl rfl ?_
    refine g_icmp_ge (q := 11) (tg := 22) dX12_powerOf_8 (by decide) rfl (fun c_8 => ?_) (fun c_8 => ?_)
    · exact absurd c_8 (by unfold w32; omega)
    · refine g_lload_n (q := 12) dX12_powerOf_11 rfl rfl ?_
      refine g_iload_n (q := 13) dX12_powerOf_12 rfl rfl ?_
      refine g_i2l (q := 14) dX12_powerOf_13 rfl ?_
      refine g_lmul (q := 15) dX12_powerOf_14 rfl ?_
      refine s_lstore_n_5_2 (q := 16) dX12_powerOf_15 rfl rfl rfl ?_
      refine s_iinc_5_4 (q := 19) dX12_powerOf_16 rfl rfl rfl ?_
      refine g_goto (q := 5) dX12_powerOf_19 (by decide) ?_
      refine kk _ _ ?_ ⟨by omega, rfl⟩
      rw [show (k + 1).toNat = k.toNat + 1 by omega, Int.pow_succ, w32_id (x := b) (by omega) (by omega)]
      simp [lsSub]
  · rintro c ⟨-, hc⟩
    subst hc
    refine g_iload (q := 7) dX12_powerOf_5 rfl rfl ?_
    refine g_iload_n (q := 8) dX12_powerOf_7 rfl rfl ?_
    refine g_icmp_ge (q := 11) (tg := 22) dX12_powerOf_8 (by decide) rfl (fun c_8 => ?_) (fun c_8 => ?_)
    · refine g_lload_n (q := 23) dX12_powerOf_22 rfl rfl ?_
      refine g_lreturn dX12_powerOf_23 rfl ?_
      exact ⟨_, rfl, rfl, rfl⟩
    · exact absurd c_8 (Int.lt_irrefl _)
theorem tw_common : ∀ (k : Nat) (a b : Nat), a < 4611686018427387904 → b < 4611686018427387904 → b < 2 ^ k → Mt YX12_common (d + 2 * k) [.inr (.inl (a : Int)), .inr (.inl (b : Int))] sh sh ct (pL fun r c => r = (Nat.gcd a b : Nat) ∧ c = ct)
  | 0, a, b, ha, hb, hk => by
    have hb0 : b = 0 := by omega
    subst hb0
    refine Mt.of rfl (Nat.le_of_ble_eq_true rfl) ?_
    show G _ 0 [some (.inr (.inl (a : Int))), none, some (.inr (.inl ((0 : Nat) : Int))), none] [] sh ct
    refine g_lload_n (q := 1) dX12_common_0 rfl rfl ?_
    refine g_lconst0 (q := 2) dX12_common_1 rfl ?_
    refine g_lcmp (q := 3) dX12_common_2 rfl ?_
    refine g_if_ne (q := 6) (tg := 10) dX12_common_3 (by decide) rfl (fun c_3 => ?_) (fun c_3 => ?_)
    · exact absurd (cmp_eq.mpr rfl) c_3
    · refine g_lload_n (q := 7) dX12_common_6 rfl rfl ?_
      refine g_goto (q := 17) dX12_common_7 (by decide) ?_
      refine g_lreturn dX12_common_17 rfl ?_
      exact ⟨_, rfl, by rw [Nat.gcd_zero_right], rfl⟩
  | k + 1, a, b, ha, hb, hk => by
    have wn : ∀ x : Nat, x < 4611686018427387904 → w64 (x : Int) = x := fun x hx => w64_id (by omega) (by omega)
    have one : ∀ (D x y : Nat), x < 4611686018427387904 → y < 4611686018427387904 → y ≠ 0 → Mt YX12_common D [.inr (.inl (y : Int)), .inr (.inl ((x % y : Nat) : Int))] sh sh ct (pL fun r c => r = (Nat.gcd y (x % y) : Nat) ∧ c = ct) → Mt YX12_common (D + 1) [.inr (.inl (x : Int)), .inr (.inl (y : Int))] sh sh ct (pL fun r c => r = (Nat.gcd x y : Nat) ∧ c = ct) := by
      intro D x y hx hy hy0 hM
      have hrem : (w64 (x : Int)).tmod (w64 (y : Int)) = ((x % y : Nat) : Int) := by
        rw [wn x hx, wn y hy, tm_pos (by omega)]
        simp
      have hg : Nat.gcd y (x % y) = Nat.gcd x y := by
        rw [Nat.gcd_comm x y, Nat.gcd_comm y (x % y), ← Nat.gcd_rec]
      refine Mt.of rfl (Nat.le_of_ble_eq_true rfl) ?_
      show G _ 0 [some (.inr (.inl (x : Int))), none, some (.inr (.inl (y : Int))), none] [] sh ct
      refine g_lload_n (q := 1) dX12_common_0 rfl rfl ?_
      refine g_lconst0 (q := 2) dX12_common_1 rfl ?_
      refine g_lcmp (q := 3) dX12_common_2 rfl ?_
      refine g_if_ne (q := 6) (tg := 10) dX12_common_3 (by decide) rfl (fun c_3 => ?_) (fun c_3 => ?_)
      · refine g_lload_n (q := 11) dX12_common_10 rfl rfl ?_
        refine g_lload_n (q := 12) dX12_common_11 rfl rfl ?_
        refine g_lload_n (q := 13) dX12_common_12 rfl rfl ?_
        refine g_lrem (q := 14) dX12_common_13 (by rw [wn y hy]; omega) rfl ?_
        rw [hrem]
        refine g_callS (q := 17) lX12_430 mX12_common sX12_common rfl (hM) shLe.rf (rmOk.mk (by omega) (by first | exact shLe.rf | assumption)) (Nat.le_of_ble_eq_true rfl) dX12_common_14 rfl rfl (kL fun r_ c_ hp => ?_)
        obtain ⟨hr, hq⟩ := hp
        replace hr := hr.symm
        replace hq := hq.symm
        subst hr hq
        refine g_lreturn dX12_common_17 rfl ?_
        exact ⟨_, rfl, by rw [hg], rfl⟩
      · have := cmp_eq.mp c_3
        rw [wn y hy] at this
        exact absurd this (by show (y : Int) ≠ 0; omega)
    by_cases hb0 : b = 0
    · subst hb0
      refine Mt.of rfl (Nat.le_of_ble_eq_true rfl) ?_
      show G _ 0 [some (.inr (.inl (a : Int))), none, some (.inr (.inl ((0 : Nat) : Int))), none] [] sh ct
      refine g_lload_n (q := 1) dX12_common_0 rfl rfl ?_
      refine g_lconst0 (q := 2) dX12_common_1 rfl ?_
      refine g_lcmp (q := 3) dX12_common_2 rfl ?_
      refine g_if_ne (q := 6) (tg := 10) dX12_common_3 (by decide) rfl (fun c_3 => ?_) (fun c_3 => ?_)
      · exact absurd (cmp_eq.mpr rfl) c_3
      · refine g_lload_n (q := 7) dX12_common_6 rfl rfl ?_
        refine g_goto (q := 17) dX12_common_7 (by decide) ?_
        refine g_lreturn dX12_common_17 rfl ?_
        exact ⟨_, rfl, by rw [Nat.gcd_zero_right], rfl⟩
    · have hr1 : a % b < b := Nat.mod_lt _ (by omega)
      have e1 : d + 2 * (k + 1) = d + 2 * k + 1 + 1 := by omega
      rw [e1]
      refine one _ a b ha hb hb0 ?_
      by_cases hr0 : a % b = 0
      · rw [hr0]
        refine Mt.of rfl (Nat.le_of_ble_eq_true rfl) ?_
        show G _ 0 [some (.inr (.inl (b : Int))), none, some (.inr (.inl ((0 : Nat) : Int))), none] [] sh ct
        refine g_lload_n (q := 1) dX12_common_0 rfl rfl ?_
        refine g_lconst0 (q := 2) dX12_common_1 rfl ?_
        refine g_lcmp (q := 3) dX12_common_2 rfl ?_
        refine g_if_ne (q := 6) (tg := 10) dX12_common_3 (by decide) rfl (fun c_3 => ?_) (fun c_3 => ?_)
        · exact absurd (cmp_eq.mpr rfl) c_3
        · refine g_lload_n (q := 7) dX12_common_6 rfl rfl ?_
          refine g_goto (q := 17) dX12_common_7 (by decide) ?_
          refine g_lreturn dX12_common_17 rfl ?_
          exact ⟨_, rfl, by rw [Nat.gcd_zero_right], rfl⟩
      · refine one _ b (a % b) hb (by omega) hr0 (tw_common k (a % b) (b % (a % b)) (by omega) ?_ ?_)
        · have := Nat.mod_lt b (show 0 < a % b by omega)
          omega
        · have h1 := Nat.mod_lt b (show 0 < a % b by omega)
          have h2 : b % (a % b) + (a % b) ≤ b := by
            have h3 := Nat.div_add_mod b (a % b)
            have h4 : 1 ≤ b / (a % b) := (Nat.one_le_div_iff (by omega)).mpr (by omega)
            have h5 : (a % b) * 1 ≤ (a % b) * (b / (a % b)) := Nat.mul_le_mul_left _ h4
            omega
          rw [Nat.pow_succ] at hk
          omega
end
