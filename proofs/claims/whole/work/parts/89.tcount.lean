/-! the reference: images restored, counts -/
section
variable (d : Nat) (sh : mbSh) (ct : mbCt) {β : Bk} {s : Sit} {n : Int} {pl : Int → Sit} {sz bt : Int → Int} {vl : Int → Int → Int}
theorem tw_restore {i : Int} {hi : Int → Int} {bi : Int → Bk} {si : Int → Sit} (S : SH sh) (M : MP ct β s n pl) (I : MI ct hi bi si) (h : i32 i) : Mt YX12_restore (d + 1) [.inr (.inr 92), .inl i] sh sh ct (pI fun r c => ((¬ (0 ≤ i ∧ i ≤ 1) ∧ r = -2 ∧ MP c β s n pl) ∨ ((0 ≤ i ∧ i ≤ 1) ∧ hi i = 0 ∧ r = -5 ∧ MP c β s n pl) ∨ ((0 ≤ i ∧ i ≤ 1) ∧ hi i = 1 ∧ r = 0 ∧ MP c (bi i) (si i) 0 pl)) ∧ MI c hi bi si ∧ eqBut [92, 93] ct c ∧ ∀ k, k ≠ 0 → c 92 k = ct 92 k) := by
  unfold i32 at h
  have s93 : shA sh 93 = some (20, 3120) := S.at _ rfl
  have s94 : shA sh 94 = some (24, 2) := S.at _ rfl
  have M0 := M.th (k := 0) (v := 0) (Or.inl rfl)
  have I0 : MI (wr ct 92 0 0) hi bi si := by
    unfold MI
    rw [wr_other ct 92 _ _ 93 (by decide), wr_other ct 92 _ _ 94 (by decide)]
    exact I
  have e0 : eqBut [92, 93] ct (wr ct 92 0 0) := eqBut.rf.wr (by decide)
  have k0 : ∀ k, k ≠ 0 → wr ct 92 0 0 92 k = ct 92 k := fun k hk => wr_nk hk
  generalize hP : (pI fun r c => ((¬ (0 ≤ i ∧ i ≤ 1) ∧ r = -2 ∧ MP c β s n pl) ∨ ((0 ≤ i ∧ i ≤ 1) ∧ hi i = 0 ∧ r = -5 ∧ MP c β s n pl) ∨ ((0 ≤ i ∧ i ≤ 1) ∧ hi i = 1 ∧ r = 0 ∧ MP c (bi i) (si i) 0 pl)) ∧ MI c hi bi si ∧ eqBut [92, 93] ct c ∧ ∀ k, k ≠ 0 → c 92 k = ct 92 k) = Po
  refine Mt.of rfl (Nat.le_of_ble_eq_true rfl) ?_
  show G _ 0 [some (.inr (.inr 92)), some (.inl i), none] [] sh ct
  refine g_aload_n (q := 1) dX12_restore_0 rfl rfl ?_
  refine g_iconst (q := 2) dX12_restore_1 rfl ?_
  refine g_putI (q := 5) (kI := 0) fX12_1 (by first | assumption | exact S.at _ rfl) dX12_restore_2 rfl rfl ?_
  refine g_iload_n (q := 6) dX12_restore_5 rfl rfl ?_
  refine g_i2l (q := 7) dX12_restore_6 rfl ?_
  refine g_lconst0 (q := 8) dX12_restore_7 rfl ?_
  refine g_lconst1 (q := 9) dX12_restore_8 rfl ?_
  rw [w32_id (x := i) h.1 h.2]
  generalize hc0 : wr ct 92 0 0 = c0 at *
  refine g_callS (q := 12) lX12_150 mX12_within sX12_within rfl (tw_within d sh _) shLe.rf (rmOk.mk (by omega) (by first | exact shLe.rf | assumption)) (Nat.le_of_ble_eq_true rfl) dX12_restore_9 rfl rfl (kI fun r_ c_ hp => ?_)
  obtain ⟨hr, hq⟩ := hp
  replace hr := hr.symm
  replace hq := hq.symm
  subst hr hq
  refine g_if_ne (q := 15) (tg := 18) dX12_restore_12 (by decide) rfl (fun c_12 => ?_) (fun c_12 => ?_)
  · have h12 : 0 ≤ i ∧ i ≤ 1 := by
      have := wbn.mp c_12
      unfold w64 at this
      omega
    have L0 := M0.1.1
    have hI := I0 i h12.1 (by omega)
    refine g_aload_n (q := 19) dX12_restore_18 rfl rfl ?_
    refine g_getA (q := 22) (kI := 2) fX12_17 (by first | assumption | exact S.at _ rfl) dX12_restore_19 rfl rfl (by first | assumption | exact L.at _ _ rfl | exact LK.at (by assumption) _ _ rfl | ((repeat first | rewrite [wr_na (by decide)] | rewrite [wr_nk (by decide)] | rewrite [wa_na (by decide)]); first | assumption | exact LK.at (by assumption) _ _ rfl) | exact rfl) ?_
    refine g_iload_n (q := 23) dX12_restore_22 rfl rfl ?_
    refine g_zaload (q := 24) (by first | assumption | exact S.at _ rfl) (by omega) (by omega) (by omega) dX12_restore_23 rfl ?_
    refine g_if_ne (q := 27) (tg := 30) dX12_restore_24 (by decide) rfl (fun c_24 => ?_) (fun c_24 => ?_)
    · obtain ⟨q1, q2, q3, q4, q5⟩ : hi i = 1 ∧ c0 94 i = 1 ∧ mBk (c0 93) (1040 * (i + 1)) (bi i) ∧ sitM (c0 93) (1040 * (i + 1) + 28) (si i) ∧ sitB (si i) := by
        rcases hI with q | q
        · rw [q.2] at c_24
          exact absurd rfl c_24
        · exact q
      refine g_iconst (q := 31) dX12_restore_30 rfl ?_
      refine s_istore_n_3_2 (q := 32) dX12_restore_31 rfl rfl rfl ?_
      refine g_for (fun k => [some (.inr (.inr 92)), some (.inl i), some (.inl k)]) (fun k c => 0 ≤ k ∧ eqBut [93] c0 c ∧ (∀ j, (j < 0 ∨ k ≤ j) → c 93 j = c0 93 j) ∧ ∀ j, 0 ≤ j → j < k → c 93 j = c0 93 (1040 * (i + 1) + j)) 1040 ?_ ?_ (i := 0) (by omega) ⟨by omega, eqBut.rf, fun _ _ => rfl, fun j _ _ => by omega⟩ (by simp [lsSub])
      · rintro k c hk ⟨z0, e, i1, i2⟩ kk
        have Lc : LK c := L0.eb e rfl
        have hv : c 93 (1040 * (i + 1) + k) = c0 93 (1040 * (i + 1) + k) := i1 _ (by omega)
        refine g_iload_n (q := 33) dX12_restore_32 rfl rfl ?_
        refine g_sipush (q := 36) dX12_restore_33 (by decide +kernel) rfl ?_
        refine g_icmp_ge (q := 39) (tg := 65) dX12_restore_36 (by decide) rfl (fun c_36 => ?_) (fun c_36 => ?_)
        · exact absurd c_36 (by unfold w32; omega)
        · refine g_aload_n (q := 40) dX12_restore_39 rfl rfl ?_
          refine g_getA (q := 43) (kI := 1) fX12_13 (by first | assumption | exact S.at _ rfl) dX12_restore_40 rfl rfl (by first | assumption | exact L.at _ _ rfl | exact LK.at (by assumption) _ _ rfl | ((repeat first | rewrite [wr_na (by decide)] | rewrite [wr_nk (by decide)] | rewrite [wa_na (by decide)]); first | assumption | exact LK.at (by assumption) _ _ rfl) | exact rfl) ?_
          refine g_iload_n (q := 44) dX12_restore_43 rfl rfl ?_
          refine g_aload_n (q := 45) dX12_restore_44 rfl rfl ?_
          refine g_getA (q := 48) (kI := 1) fX12_13 (by first | assumption | exact S.at _ rfl) dX12_restore_45 rfl rfl (by first | assumption | exact L.at _ _ rfl | exact LK.at (by assumption) _ _ rfl | ((repeat first | rewrite [wr_na (by decide)] | rewrite [wr_nk (by decide)] | rewrite [wa_na (by decide)]); first | assumption | exact LK.at (by assumption) _ _ rfl) | exact rfl) ?_
          refine g_sipush (q := 51) dX12_restore_48 (by decide +kernel) rfl ?_
          refine g_iload_n (q := 52) dX12_restore_51 rfl rfl ?_
          refine g_iconst (q := 53) dX12_restore_52 rfl ?_
          refine g_iadd (q := 54) dX12_restore_53 rfl ?_
          refine g_imul (q := 55) dX12_restore_54 rfl ?_
          refine g_iload_n (q := 56) dX12_restore_55 rfl rfl ?_
          refine g_iadd (q := 57) dX12_restore_56 rfl ?_
          refine g_iaload (q := 58) (by first | assumption | exact S.at _ rfl) (by omega) (by omega) (by omega) dX12_restore_57 rfl ?_
          rw [hv]
          refine g_iastore (q := 59) (by first | assumption | exact S.at _ rfl) (by omega) (by omega) (by omega) dX12_restore_58 rfl ?_
          refine s_iinc_3_2 (q := 62) dX12_restore_59 rfl rfl rfl ?_
          refine g_goto (q := 32) dX12_restore_62 (by decide) ?_
          refine kk _ _ (by simp [lsSub]) ⟨by omega, e.wr (by decide), fun j hj => ?_, fun j a b => ?_⟩
          · rw [wr_nk (by omega)]
            exact i1 j (by omega)
          · by_cases hjk : j = k
            · subst hjk
              exact wr_eq
            · rw [wr_nk (by omega)]
              exact i2 j a (by omega)
      · rintro c ⟨-, e, i1, i2⟩
        have Lc : LK c := L0.eb e rfl
        refine g_iload_n (q := 33) dX12_restore_32 rfl rfl ?_
        refine g_sipush (q := 36) dX12_restore_33 (by decide +kernel) rfl ?_
        refine g_icmp_ge (q := 39) (tg := 65) dX12_restore_36 (by decide) rfl (fun c_36 => ?_) (fun c_36 => ?_)
        · refine g_aload_n (q := 66) dX12_restore_65 rfl rfl ?_
          refine g_getA (q := 69) (kI := 1) fX12_13 (by first | assumption | exact S.at _ rfl) dX12_restore_66 rfl rfl (by first | assumption | exact L.at _ _ rfl | exact LK.at (by assumption) _ _ rfl | ((repeat first | rewrite [wr_na (by decide)] | rewrite [wr_nk (by decide)] | rewrite [wa_na (by decide)]); first | assumption | exact LK.at (by assumption) _ _ rfl) | exact rfl) ?_
          refine g_bipush (q := 71) dX12_restore_69 (by decide +kernel) rfl ?_
          refine g_iconst (q := 72) dX12_restore_71 rfl ?_
          refine g_iastore (q := 73) (by first | assumption | exact S.at _ rfl) (by omega) (by omega) (by omega) dX12_restore_72 rfl ?_
          refine g_iconst (q := 74) dX12_restore_73 rfl ?_
          refine g_ireturn dX12_restore_74 rfl ?_
          rw [← hP]
          have v : ∀ j, j ≠ 38 → wr c 93 38 0 93 j = c 93 j := fun j hj => wr_nk hj
          refine ⟨_, rfl, Or.inr (Or.inr ⟨h12, q1, rfl, ⟨⟨Lc.wr (lkF_none rfl _), q3.cp (fun j hj => ?_), q4.cp (fun j a b => ?_), q5⟩, wr_eq, by omega, fun k a b => by omega⟩⟩), ?_, (e0.tr (e.mono (by decide))).wr (by decide), fun k hk => ?_⟩
          · rw [Int.zero_add, v j (by omega)]
            exact i2 j (by omega) (by omega)
          · rw [v _ (by omega), show 1040 * (i + 1) + 28 + j = 1040 * (i + 1) + (28 + j) by omega]
            exact i2 (28 + j) (by omega) (by omega)
          · intro u u0 u1
            rw [wr_other c 93 _ _ 94 (by decide), e 94 (by decide)]
            rcases I0 u u0 u1 with q | ⟨z1, z2, z3, z4, z5⟩
            · exact Or.inl q
            · refine Or.inr ⟨z1, z2, z3.cp (fun j hj => ?_), z4.cp (fun j a b => ?_), z5⟩
              · rw [v _ (by omega)]
                exact i1 _ (by omega)
              · rw [v _ (by omega)]
                exact i1 _ (by omega)
          · rw [wr_na (by decide), e 92 (by decide)]
            exact k0 k hk
        · exact absurd c_36 (by decide)
    · have hz : hi i = 0 := by
        rcases hI with q | q
        · exact q.1
        · rw [q.2.1] at c_24
          exact absurd c_24 (by decide)
      refine g_bipush (q := 29) dX12_restore_27 (by decide +kernel) rfl ?_
      refine g_ireturn dX12_restore_29 rfl ?_
      rw [← hP]
      exact ⟨_, rfl, Or.inr (Or.inl ⟨h12, hz, rfl, M0⟩), I0, e0, k0⟩
  · refine g_bipush (q := 17) dX12_restore_15 (by decide +kernel) rfl ?_
    refine g_ireturn dX12_restore_17 rfl ?_
    rw [← hP]
    refine ⟨_, rfl, Or.inl ⟨fun z => ?_, rfl, M0⟩, I0, e0, k0⟩
    have := wb0.mp c_12
    unfold w64 at this
    omega
theorem tw_marksAll (S : SH sh) (M : MA ct β s) : Mt YX12_marksAll d [.inr (.inr 92)] sh sh ct (pI fun r c => r = sm s.2.2 (β.n 2).toNat ∧ c = ct) := by
  have hm := M.md.mem
  have L := M.1
  refine Mt.of rfl (Nat.le_of_ble_eq_true rfl) ?_
  show G _ 0 [some (.inr (.inr 92)), none, none] [] sh ct
  refine g_iconst (q := 1) dX12_marksAll_0 rfl ?_
  refine s_istore_n_3_1 (q := 2) dX12_marksAll_1 rfl rfl rfl ?_
  refine g_iconst (q := 3) dX12_marksAll_2 rfl ?_
  refine s_istore_n_3_2 (q := 4) dX12_marksAll_3 rfl rfl rfl ?_
  refine g_for (fun k => [some (.inr (.inr 92)), some (.inl (sm s.2.2 k.toNat)), some (.inl k)]) (fun k c => 0 ≤ k ∧ c = ct) (β.n 2) ?_ ?_ (i := 0) (by omega) ⟨by omega, rfl⟩ (by simp [lsSub]; rfl)
  · rintro k c hk ⟨k0, hc⟩ kk
    subst hc
    have ek : ((k.toNat : Nat) : Int) = k := by omega
    have hmk := M.md.mark k0 (by omega)
    refine g_iload_n (q := 5) dX12_marksAll_4 rfl rfl ?_
    refine g_aload_n (q := 6) dX12_marksAll_5 rfl rfl ?_
    refine g_getA (q := 9) (kI := 1) fX12_13 (by first | assumption | exact S.at _ rfl) dX12_marksAll_6 rfl rfl (by first | assumption | exact L.at _ _ rfl | exact LK.at (by assumption) _ _ rfl | ((repeat first | rewrite [wr_na (by decide)] | rewrite [wr_nk (by decide)] | rewrite [wa_na (by decide)]); first | assumption | exact LK.at (by assumption) _ _ rfl) | exact rfl) ?_
    refine g_iconst (q := 10) dX12_marksAll_9 rfl ?_
    refine g_iaload (q := 11) (by first | assumption | exact S.at _ rfl) (by omega) (by omega) (by omega) dX12_marksAll_10 rfl ?_
    refine g_icmp_ge (q := 14) (tg := 32) dX12_marksAll_11 (by decide) rfl (fun c_11 => ?_) (fun c_11 => ?_)
    · rw [hm.1] at c_11
      exact absurd c_11 (by unfold w32; omega)
    · refine g_iload_n (q := 15) dX12_marksAll_14 rfl rfl ?_
      refine g_aload_n (q := 16) dX12_marksAll_15 rfl rfl ?_
      refine g_getA (q := 19) (kI := 1) fX12_13 (by first | assumption | exact S.at _ rfl) dX12_marksAll_16 rfl rfl (by first | assumption | exact L.at _ _ rfl | exact LK.at (by assumption) _ _ rfl | ((repeat first | rewrite [wr_na (by decide)] | rewrite [wr_nk (by decide)] | rewrite [wa_na (by decide)]); first | assumption | exact LK.at (by assumption) _ _ rfl) | exact rfl) ?_
      refine g_bipush (q := 21) dX12_marksAll_19 (by decide +kernel) rfl ?_
      refine g_iload_n (q := 22) dX12_marksAll_21 rfl rfl ?_
      refine g_iadd (q := 23) dX12_marksAll_22 rfl ?_
      refine g_iaload (q := 24) (by first | assumption | exact S.at _ rfl) (by omega) (by omega) (by omega) dX12_marksAll_23 rfl ?_
      rw [hmk.1]
      refine g_iadd (q := 25) dX12_marksAll_24 rfl ?_
      refine s_istore_n_3_1 (q := 26) dX12_marksAll_25 rfl rfl rfl ?_
      refine s_iinc_3_2 (q := 29) dX12_marksAll_26 rfl rfl rfl ?_
      refine g_goto (q := 4) dX12_marksAll_29 (by decide) ?_
      refine kk _ _ ?_ ⟨by omega, rfl⟩
      rw [show (k + 1).toNat = k.toNat + 1 by omega]
      simp only [sm, ek]
      simp [lsSub]
  · rintro c ⟨-, hc⟩
    subst hc
    refine g_iload_n (q := 5) dX12_marksAll_4 rfl rfl ?_
    refine g_aload_n (q := 6) dX12_marksAll_5 rfl rfl ?_
    refine g_getA (q := 9) (kI := 1) fX12_13 (by first | assumption | exact S.at _ rfl) dX12_marksAll_6 rfl rfl (by first | assumption | exact L.at _ _ rfl | exact LK.at (by assumption) _ _ rfl | ((repeat first | rewrite [wr_na (by decide)] | rewrite [wr_nk (by decide)] | rewrite [wa_na (by decide)]); first | assumption | exact LK.at (by assumption) _ _ rfl) | exact rfl) ?_
    refine g_iconst (q := 10) dX12_marksAll_9 rfl ?_
    refine g_iaload (q := 11) (by first | assumption | exact S.at _ rfl) (by omega) (by omega) (by omega) dX12_marksAll_10 rfl ?_
    refine g_icmp_ge (q := 14) (tg := 32) dX12_marksAll_11 (by decide) rfl (fun c_11 => ?_) (fun c_11 => ?_)
    · refine g_iload_n (q := 33) dX12_marksAll_32 rfl rfl ?_
      refine g_ireturn dX12_marksAll_33 rfl ?_
      exact ⟨_, rfl, rfl, rfl⟩
    · rw [hm.1] at c_11
      exact absurd c_11 (Int.lt_irrefl _)
/-- counts -/
def cntV2 (β : Bk) (s : Sit) (n tn w : Int) : Int := if w = 0 then s.1 / 70 else if w = 1 then s.1 / 7 % 10 else if w = 2 then (if s.1 % 7 = 6 then -1 else s.1 % 7) else if w = 3 then β.n 2 else if w = 4 then β.n 3 else if w = 5 then s.2.1 else if w = 6 then sm s.2.2 (β.n 2).toNat else if w = 7 then n else if w = 8 then tn else if w = 9 then β.n 5 else -1
theorem tw_count {w tn : Int} (S : SH sh) (M : MP ct β s n pl) (hw : i32 w) (h5 : ct 92 5 = tn) : Mt YX12_count (d + 1) [.inr (.inr 92), .inl w] sh sh ct (pI fun r c => r = cntV2 β s n tn w ∧ c = wr ct 92 0 0) := by
  unfold i32 at hw
  have M0 := M.th (k := 0) (v := 0) (Or.inl rfl)
  have h5' : wr ct 92 0 0 92 5 = tn := by rw [wr_nk (by decide)]; exact h5
  have L0 := M0.1.1
  obtain ⟨b1, b2, b3, b4, b5, b6⟩ := M0.1.2.1.1
  obtain ⟨a1, a2, a3, a4, a5⟩ := M0.1.2.2.1
  have p1 := M0.2.1
  have hrg := M0.1.2.2.2.1
  refine Mt.of rfl (Nat.le_of_ble_eq_true rfl) ?_
  show G _ 0 [some (.inr (.inr 92)), some (.inl w)] [] sh ct
  refine g_aload_n (q := 1) dX12_count_0 rfl rfl ?_
  refine g_iconst (q := 2) dX12_count_1 rfl ?_
  refine g_putI (q := 5) (kI := 0) fX12_1 (by first | assumption | exact S.at _ rfl) dX12_count_2 rfl rfl ?_
  refine g_iload_n (q := 6) dX12_count_5 rfl rfl ?_
  generalize hc0 : wr ct 92 0 0 = c0 at *
  rcases (show w = 0 ∨ w = 1 ∨ w = 2 ∨ w = 3 ∨ w = 4 ∨ w = 5 ∨ w = 6 ∨ w = 7 ∨ w = 8 ∨ w = 9 ∨ (w < 0 ∨ 9 < w) by omega) with rfl | rfl | rfl | rfl | rfl | rfl | rfl | rfl | rfl | rfl | hw2
  · refine g_tabIn (q := 60) dX12_count_6 0 rfl (by decide) (by decide) rfl (by decide) ?_
    refine g_aload_n (q := 61) dX12_count_60 rfl rfl ?_
    refine g_getA (q := 64) (kI := 1) fX12_13 (by first | assumption | exact S.at _ rfl) dX12_count_61 rfl rfl (by first | assumption | exact L.at _ _ rfl | exact LK.at (by assumption) _ _ rfl | ((repeat first | rewrite [wr_na (by decide)] | rewrite [wr_nk (by decide)] | rewrite [wa_na (by decide)]); first | assumption | exact LK.at (by assumption) _ _ rfl) | exact rfl) ?_
    refine g_bipush (q := 66) dX12_count_64 (by decide +kernel) rfl ?_
    refine g_iaload (q := 67) (by first | assumption | exact S.at _ rfl) (by omega) (by omega) (by omega) dX12_count_66 rfl ?_
    refine g_ireturn dX12_count_67 rfl ?_
    exact ⟨_, rfl, a1, rfl⟩
  · refine g_tabIn (q := 68) dX12_count_6 1 rfl (by decide) (by decide) rfl (by decide) ?_
    refine g_aload_n (q := 69) dX12_count_68 rfl rfl ?_
    refine g_getA (q := 72) (kI := 1) fX12_13 (by first | assumption | exact S.at _ rfl) dX12_count_69 rfl rfl (by first | assumption | exact L.at _ _ rfl | exact LK.at (by assumption) _ _ rfl | ((repeat first | rewrite [wr_na (by decide)] | rewrite [wr_nk (by decide)] | rewrite [wa_na (by decide)]); first | assumption | exact LK.at (by assumption) _ _ rfl) | exact rfl) ?_
    refine g_bipush (q := 74) dX12_count_72 (by decide +kernel) rfl ?_
    refine g_iaload (q := 75) (by first | assumption | exact S.at _ rfl) (by omega) (by omega) (by omega) dX12_count_74 rfl ?_
    refine g_ireturn dX12_count_75 rfl ?_
    exact ⟨_, rfl, a2, rfl⟩
  · refine g_tabIn (q := 76) dX12_count_6 2 rfl (by decide) (by decide) rfl (by decide) ?_
    have a3' : c0 93 30 = s.1 % 7 := a3
    refine g_aload_n (q := 77) dX12_count_76 rfl rfl ?_
    refine g_getA (q := 80) (kI := 1) fX12_13 (by first | assumption | exact S.at _ rfl) dX12_count_77 rfl rfl (by first | assumption | exact L.at _ _ rfl | exact LK.at (by assumption) _ _ rfl | ((repeat first | rewrite [wr_na (by decide)] | rewrite [wr_nk (by decide)] | rewrite [wa_na (by decide)]); first | assumption | exact LK.at (by assumption) _ _ rfl) | exact rfl) ?_
    refine g_bipush (q := 82) dX12_count_80 (by decide +kernel) rfl ?_
    refine g_iaload (q := 83) (by first | assumption | exact S.at _ rfl) (by omega) (by omega) (by omega) dX12_count_82 rfl ?_
    refine g_bipush (q := 85) dX12_count_83 (by decide +kernel) rfl ?_
    refine g_icmp_ne (q := 88) (tg := 92) dX12_count_85 (by decide) rfl (fun c_85 => ?_) (fun c_85 => ?_)
    · rw [a3'] at c_85
      refine g_aload_n (q := 93) dX12_count_92 rfl rfl ?_
      refine g_getA (q := 96) (kI := 1) fX12_13 (by first | assumption | exact S.at _ rfl) dX12_count_93 rfl rfl (by first | assumption | exact L.at _ _ rfl | exact LK.at (by assumption) _ _ rfl | ((repeat first | rewrite [wr_na (by decide)] | rewrite [wr_nk (by decide)] | rewrite [wa_na (by decide)]); first | assumption | exact LK.at (by assumption) _ _ rfl) | exact rfl) ?_
      refine g_bipush (q := 98) dX12_count_96 (by decide +kernel) rfl ?_
      refine g_iaload (q := 99) (by first | assumption | exact S.at _ rfl) (by omega) (by omega) (by omega) dX12_count_98 rfl ?_
      refine g_ireturn dX12_count_99 rfl ?_
      refine ⟨_, rfl, ?_, rfl⟩
      show c0 93 30 = (if s.1 % 7 = 6 then -1 else s.1 % 7)
      rw [if_neg (fun z => c_85 (by rw [z])), a3']
    · rw [a3'] at c_85
      refine g_iconst (q := 89) dX12_count_88 rfl ?_
      refine g_goto (q := 99) dX12_count_89 (by decide) ?_
      refine g_ireturn dX12_count_99 rfl ?_
      refine ⟨_, rfl, ?_, rfl⟩
      show -1 = (if s.1 % 7 = 6 then -1 else s.1 % 7)
      rw [if_pos (by unfold w32 at c_85; omega)]
  · refine g_tabIn (q := 100) dX12_count_6 3 rfl (by decide) (by decide) rfl (by decide) ?_
    refine g_aload_n (q := 101) dX12_count_100 rfl rfl ?_
    refine g_getA (q := 104) (kI := 1) fX12_13 (by first | assumption | exact S.at _ rfl) dX12_count_101 rfl rfl (by first | assumption | exact L.at _ _ rfl | exact LK.at (by assumption) _ _ rfl | ((repeat first | rewrite [wr_na (by decide)] | rewrite [wr_nk (by decide)] | rewrite [wa_na (by decide)]); first | assumption | exact LK.at (by assumption) _ _ rfl) | exact rfl) ?_
    refine g_iconst (q := 105) dX12_count_104 rfl ?_
    refine g_iaload (q := 106) (by first | assumption | exact S.at _ rfl) (by omega) (by omega) (by omega) dX12_count_105 rfl ?_
    refine g_ireturn dX12_count_106 rfl ?_
    exact ⟨_, rfl, b2, rfl⟩
  · refine g_tabIn (q := 107) dX12_count_6 4 rfl (by decide) (by decide) rfl (by decide) ?_
    refine g_aload_n (q := 108) dX12_count_107 rfl rfl ?_
    refine g_getA (q := 111) (kI := 1) fX12_13 (by first | assumption | exact S.at _ rfl) dX12_count_108 rfl rfl (by first | assumption | exact L.at _ _ rfl | exact LK.at (by assumption) _ _ rfl | ((repeat first | rewrite [wr_na (by decide)] | rewrite [wr_nk (by decide)] | rewrite [wa_na (by decide)]); first | assumption | exact LK.at (by assumption) _ _ rfl) | exact rfl) ?_
    refine g_iconst (q := 112) dX12_count_111 rfl ?_
    refine g_iaload (q := 113) (by first | assumption | exact S.at _ rfl) (by omega) (by omega) (by omega) dX12_count_112 rfl ?_
    refine g_ireturn dX12_count_113 rfl ?_
    exact ⟨_, rfl, b3, rfl⟩
  · refine g_tabIn (q := 114) dX12_count_6 5 rfl (by decide) (by decide) rfl (by decide) ?_
    refine g_aload_n (q := 115) dX12_count_114 rfl rfl ?_
    refine g_getA (q := 118) (kI := 1) fX12_13 (by first | assumption | exact S.at _ rfl) dX12_count_115 rfl rfl (by first | assumption | exact L.at _ _ rfl | exact LK.at (by assumption) _ _ rfl | ((repeat first | rewrite [wr_na (by decide)] | rewrite [wr_nk (by decide)] | rewrite [wa_na (by decide)]); first | assumption | exact LK.at (by assumption) _ _ rfl) | exact rfl) ?_
    refine g_bipush (q := 120) dX12_count_118 (by decide +kernel) rfl ?_
    refine g_iaload (q := 121) (by first | assumption | exact S.at _ rfl) (by omega) (by omega) (by omega) dX12_count_120 rfl ?_
    refine g_ireturn dX12_count_121 rfl ?_
    exact ⟨_, rfl, a4, rfl⟩
  · refine g_tabIn (q := 122) dX12_count_6 6 rfl (by decide) (by decide) rfl (by decide) ?_
    refine g_aload_n (q := 123) dX12_count_122 rfl rfl ?_
    refine g_callV (q := 126) lX12_451 mX12_marksAll nX12_marksAll rfl (tw_marksAll d sh _ S M0.1) (by first | assumption | exact S.at _ rfl) rfl rfl shLe.rf (rmOk.mk (by omega) (by first | exact shLe.rf | assumption)) (Nat.le_of_ble_eq_true rfl) dX12_count_123 rfl rfl (kI fun r_ c_ hp => ?_)
    obtain ⟨hr, hq⟩ := hp
    replace hr := hr.symm
    replace hq := hq.symm
    subst hr hq
    refine g_ireturn dX12_count_126 rfl ?_
    exact ⟨_, rfl, rfl, rfl⟩
  · refine g_tabIn (q := 127) dX12_count_6 7 rfl (by decide) (by decide) rfl (by decide) ?_
    refine g_aload_n (q := 128) dX12_count_127 rfl rfl ?_
    refine g_getA (q := 131) (kI := 1) fX12_13 (by first | assumption | exact S.at _ rfl) dX12_count_128 rfl rfl (by first | assumption | exact L.at _ _ rfl | exact LK.at (by assumption) _ _ rfl | ((repeat first | rewrite [wr_na (by decide)] | rewrite [wr_nk (by decide)] | rewrite [wa_na (by decide)]); first | assumption | exact LK.at (by assumption) _ _ rfl) | exact rfl) ?_
    refine g_bipush (q := 133) dX12_count_131 (by decide +kernel) rfl ?_
    refine g_iaload (q := 134) (by first | assumption | exact S.at _ rfl) (by omega) (by omega) (by omega) dX12_count_133 rfl ?_
    refine g_ireturn dX12_count_134 rfl ?_
    exact ⟨_, rfl, p1, rfl⟩
  · refine g_tabIn (q := 135) dX12_count_6 8 rfl (by decide) (by decide) rfl (by decide) ?_
    refine g_aload_n (q := 136) dX12_count_135 rfl rfl ?_
    refine g_getI (q := 139) (kI := 5) fX12_88 (by first | assumption | exact S.at _ rfl) dX12_count_136 rfl rfl ?_
    refine g_ireturn dX12_count_139 rfl ?_
    exact ⟨_, rfl, h5', rfl⟩
  · refine g_tabIn (q := 140) dX12_count_6 9 rfl (by decide) (by decide) rfl (by decide) ?_
    refine g_aload_n (q := 141) dX12_count_140 rfl rfl ?_
    refine g_getA (q := 144) (kI := 1) fX12_13 (by first | assumption | exact S.at _ rfl) dX12_count_141 rfl rfl (by first | assumption | exact L.at _ _ rfl | exact LK.at (by assumption) _ _ rfl | ((repeat first | rewrite [wr_na (by decide)] | rewrite [wr_nk (by decide)] | rewrite [wa_na (by decide)]); first | assumption | exact LK.at (by assumption) _ _ rfl) | exact rfl) ?_
    refine g_iconst (q := 145) dX12_count_144 rfl ?_
    refine g_iaload (q := 146) (by first | assumption | exact S.at _ rfl) (by omega) (by omega) (by omega) dX12_count_145 rfl ?_
    refine g_ireturn dX12_count_146 rfl ?_
    exact ⟨_, rfl, b1, rfl⟩
  · refine g_tabOut (q := 147) dX12_count_6 (by rw [w32_id hw.1 hw.2]; exact hw2) (by decide) ?_
    refine g_iconst (q := 148) dX12_count_147 rfl ?_
    refine g_ireturn dX12_count_148 rfl ?_
    refine ⟨_, rfl, ?_, rfl⟩
    unfold cntV2
    rw [if_neg (by omega), if_neg (by omega), if_neg (by omega), if_neg (by omega), if_neg (by omega), if_neg (by omega), if_neg (by omega), if_neg (by omega), if_neg (by omega), if_neg (by omega)]
end
