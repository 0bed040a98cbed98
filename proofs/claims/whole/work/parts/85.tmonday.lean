/-! the reference: deeds done, Mondays -/
section
variable (d : Nat) (sh : mbSh) (ct : mbCt) {β : Bk} {s : Sit} {n : Int} {pl : Int → Sit} {sz bt : Int → Int} {vl : Int → Int → Int}
theorem tw_perform {t : Int} (S : SH sh) (M : MP ct β s n pl) (T : MT ct sz bt vl) (ht : i32 t) : Mt YX12_perform (d + 7) [.inr (.inr 92), .inl t] sh sh ct (pI fun r c => ((¬ isTr t ∧ r = -2 ∧ MP c β s n pl) ∨ (isTr t ∧ sz t = -1 ∧ r = -6 ∧ MP c β s n pl) ∨ (isTr t ∧ sz t ≠ -1 ∧ r = (dRun β (vl t) (sz t).toNat (sz t).toNat s).1 ∧ ((r = 0 ∧ MP c β s n pl) ∨ (0 < r ∧ MP c β (dRun β (vl t) (sz t).toNat (sz t).toNat s).2.1 (pushN n) (pushP n pl s))))) ∧ dF ct c) := by
  have M0 := M.th (k := 0) (v := 0) (Or.inl rfl)
  have f0 := dF.th (ct := ct) (k := 0) (v := 0) (Or.inl rfl)
  have T0 : MT (wr ct 92 0 0) sz bt vl := T.eq (wr_other _ _ _ _ _ (by decide)) (wr_other _ _ _ _ _ (by decide)) (wr_other _ _ _ _ _ (by decide))
  generalize hP : (pI fun r c => ((¬ isTr t ∧ r = -2 ∧ MP c β s n pl) ∨ (isTr t ∧ sz t = -1 ∧ r = -6 ∧ MP c β s n pl) ∨ (isTr t ∧ sz t ≠ -1 ∧ r = (dRun β (vl t) (sz t).toNat (sz t).toNat s).1 ∧ ((r = 0 ∧ MP c β s n pl) ∨ (0 < r ∧ MP c β (dRun β (vl t) (sz t).toNat (sz t).toNat s).2.1 (pushN n) (pushP n pl s))))) ∧ dF ct c) = Po
  refine Mt.of rfl (Nat.le_of_ble_eq_true rfl) ?_
  show G _ 0 [some (.inr (.inr 92)), some (.inl t), none, none] [] sh ct
  refine g_aload_n (q := 1) dX12_perform_0 rfl rfl ?_
  refine g_iconst (q := 2) dX12_perform_1 rfl ?_
  refine g_putI (q := 5) (kI := 0) fX12_1 (by first | assumption | exact S.at _ rfl) dX12_perform_2 rfl rfl ?_
  refine g_aload_n (q := 6) dX12_perform_5 rfl rfl ?_
  refine g_iload_n (q := 7) dX12_perform_6 rfl rfl ?_
  refine g_callV (q := 10) lX12_309 mX12_noTray nX12_noTray rfl (tw_noTray (d + 5) sh _ S M0.1.1 T0 ht) (by first | assumption | exact S.at _ rfl) rfl rfl shLe.rf (rmOk.mk (by omega) (by first | exact shLe.rf | assumption)) (Nat.le_of_ble_eq_true rfl) dX12_perform_7 rfl rfl (kI fun r_ c_ hp => ?_)
  obtain ⟨hr, hq⟩ := hp
  replace hr := hr.symm
  replace hq := hq.symm
  subst hr hq
  by_cases hi : isTr t
  · rw [if_pos hi]
    by_cases hz : sz t = -1
    · rw [if_pos hz]
      refine s_istore_n_4_2 (q := 11) dX12_perform_10 rfl rfl rfl ?_
      refine g_iload_n (q := 12) dX12_perform_11 rfl rfl ?_
      refine g_if_eq (q := 15) (tg := 17) dX12_perform_12 (by decide) rfl (fun c_12 => ?_) (fun c_12 => ?_)
      · exact absurd c_12 (by decide)
      · refine g_iload_n (q := 16) dX12_perform_15 rfl rfl ?_
        refine g_ireturn dX12_perform_16 rfl ?_
        rw [← hP]
        exact ⟨_, rfl, Or.inr (Or.inl ⟨hi, hz, rfl, M0⟩), f0⟩
    · rw [if_neg hz]
      have hsz : 0 ≤ sz t := by
        rcases T t hi.1 hi.2 with h | h
        · exact absurd h.1 hz
        · exact h.1.1
      have hsz2 : sz t ≤ 40 := by
        rcases T t hi.1 hi.2 with h | h
        · exact absurd h.1 hz
        · exact h.1.2
      generalize hR : dRun β (vl t) (sz t).toNat (sz t).toNat s = R at hP
      have hrun := dRun_in (β := β) (tl := vl t) (n := (sz t).toNat) (sz t).toNat s (Nat.le_refl _)
      rw [hR] at hrun
      refine s_istore_n_4_2 (q := 11) dX12_perform_10 rfl rfl rfl ?_
      refine g_iload_n (q := 12) dX12_perform_11 rfl rfl ?_
      refine g_if_eq (q := 15) (tg := 17) dX12_perform_12 (by decide) rfl (fun c_12 => ?_) (fun c_12 => ?_)
      · refine g_aload_n (q := 18) dX12_perform_17 rfl rfl ?_
        refine g_callV (q := 21) lX12_278 mX12_keeps nX12_keeps rfl (tw_keeps (d + 6) sh _ S M0.1.1 M0.1.2.2.1) (by first | assumption | exact S.at _ rfl) rfl rfl shLe.rf (rmOk.mk (by omega) (by first | exact shLe.rf | assumption)) (Nat.le_of_ble_eq_true rfl) dX12_perform_18 rfl rfl (kN fun c2 hp => ?_)
        obtain ⟨k2, e2⟩ := hp
        have M2 : MP c2 β s n pl := M0.eq (M0.1.1.eb e2 rfl) (e2 93 (by decide))
        have T2 : MT c2 sz bt vl := T0.eq (e2 111 (by decide)) (e2 112 (by decide)) (e2 113 (by decide))
        have f2 := f0.tr (dF.of e2 rfl (frJ.of (e2 93 (by decide))))
        refine g_aload_n (q := 22) dX12_perform_21 rfl rfl ?_
        refine g_iload_n (q := 23) dX12_perform_22 rfl rfl ?_
        refine g_callV (q := 26) lX12_312 mX12_tells nX12_tells rfl (tw_tells d sh _ S M2.1 T2 hi (N := (sz t).toNat) (by omega)) (by first | assumption | exact S.at _ rfl) rfl rfl shLe.rf (rmOk.mk (by omega) (by first | exact shLe.rf | assumption)) (Nat.le_of_ble_eq_true rfl) dX12_perform_23 rfl rfl (kI fun r c3 hp => ?_)
        rw [hR] at hp
        obtain ⟨rfl, h19, M3, e3⟩ := hp
        have M3' : MP c3 β R.2.1 n pl := ⟨M3, M2.2.fr e3.2.2⟩
        have f3 := f2.tr e3.df
        refine s_istore_n_4_3 (q := 27) dX12_perform_26 rfl rfl rfl ?_
        refine g_iload_n (q := 28) dX12_perform_27 rfl rfl ?_
        refine g_if_le (q := 31) (tg := 35) dX12_perform_28 (by decide) rfl (fun c_28 => ?_) (fun c_28 => ?_)
        · have hr0 : R.1 = 0 := by unfold w32 at c_28; omega
          have hsame : R.2.1 = s := by
            rw [← hR]
            rw [← hR] at hr0
            generalize hN : (sz t).toNat = N at *
            match N, hr0 with
            | 0, _ => rfl
            | N + 1, hr0 =>
              unfold dRun at hr0 ⊢
              split
              · rename_i hw
                rw [if_pos hw] at hr0
                exfalso
                have h1 : ∀ (r : Nat) (u : Sit), r ≤ N → ((N + 1 - r : Nat) : Int) ≤ (dRun β (vl t) (N + 1) r u).1 := by
                  intro r
                  induction r with
                  | zero =>
                    intro u _
                    show ((N + 1 - 0 : Nat) : Int) ≤ ((N + 1 : Nat) : Int)
                    omega
                  | succ r ih =>
                    intro u hr
                    unfold dRun
                    split
                    · have := ih (doV β u (vl t ((N + 1 - (r + 1) : Nat) : Int))) (by omega)
                      omega
                    · exact Int.le_refl _
                have := h1 N (doV β s (vl t ((N + 1 - (N + 1) : Nat) : Int))) (Nat.le_refl _)
                omega
              · rfl
          rw [hsame] at M3'
          refine g_iload_n (q := 36) dX12_perform_35 rfl rfl ?_
          refine g_ireturn dX12_perform_36 rfl ?_
          rw [← hP]
          exact ⟨_, rfl, Or.inr (Or.inr ⟨hi, hz, rfl, Or.inl ⟨hr0, M3'⟩⟩), f3⟩
        · refine g_aload_n (q := 32) dX12_perform_31 rfl rfl ?_
          refine g_callV (q := 35) lX12_285 mX12_notes nX12_notes rfl (tw_notes (d + 6) sh _ S M3' (w := s) (by rw [e3.1 99 (by decide)]; exact k2) M.1.2.2.2) (by first | assumption | exact S.at _ rfl) rfl rfl shLe.rf (rmOk.mk (by omega) (by first | exact shLe.rf | assumption)) (Nat.le_of_ble_eq_true rfl) dX12_perform_32 rfl rfl (kN fun c4 hp => ?_)
          obtain ⟨M4, e4, fr4⟩ := hp
          refine g_iload_n (q := 36) dX12_perform_35 rfl rfl ?_
          refine g_ireturn dX12_perform_36 rfl ?_
          rw [← hP]
          exact ⟨_, rfl, Or.inr (Or.inr ⟨hi, hz, rfl, Or.inr ⟨by unfold w32 at c_28; omega, M4⟩⟩), f3.tr (dF.of e4 rfl (fr4.mono (by decide) (by decide)))⟩
      · exact absurd rfl c_12
  · rw [if_neg hi]
    refine s_istore_n_4_2 (q := 11) dX12_perform_10 rfl rfl rfl ?_
    refine g_iload_n (q := 12) dX12_perform_11 rfl rfl ?_
    refine g_if_eq (q := 15) (tg := 17) dX12_perform_12 (by decide) rfl (fun c_12 => ?_) (fun c_12 => ?_)
    · exact absurd c_12 (by decide)
    · refine g_iload_n (q := 16) dX12_perform_15 rfl rfl ?_
      refine g_ireturn dX12_perform_16 rfl ?_
      rw [← hP]
      exact ⟨_, rfl, Or.inl ⟨hi, rfl, M0⟩, f0⟩
theorem tw_draw {b : Int} (S : SH sh) (hb : b = 6 ∨ b = 8 ∨ b = 10) : Mt YX12_draw d [.inr (.inr 92), .inl b] sh sh ct (pI fun r c => r = drwV (drw (ct 92 20)) b ∧ c = wr ct 92 20 (drw (ct 92 20))) := by
  have hu := ush16 (drw (ct 92 20))
  have hv : (w32 (ushI (drw (ct 92 20)) 16)).tmod (w32 b) = drwV (drw (ct 92 20)) b := by
    rw [w32_id (x := ushI (drw (ct 92 20)) 16) (by omega) (by omega), tm_pos hu.1]
    rcases hb with rfl | rfl | rfl <;> rfl
  have hq : wr ct 92 20 (1103515245 * ct 92 20 + 12345) 92 20 = drw (ct 92 20) := wr_eq
  refine Mt.of rfl (Nat.le_of_ble_eq_true rfl) ?_
  show G _ 0 [some (.inr (.inr 92)), some (.inl b)] [] sh ct
  refine g_aload_n (q := 1) dX12_draw_0 rfl rfl ?_
  refine g_ldcw (q := 4) dX12_draw_1 kX12_318 rfl ?_
  refine g_aload_n (q := 5) dX12_draw_4 rfl rfl ?_
  refine g_getI (q := 8) (kI := 20) fX12_319 (by first | assumption | exact S.at _ rfl) dX12_draw_5 rfl rfl ?_
  refine g_imul (q := 9) dX12_draw_8 rfl ?_
  refine g_sipush (q := 12) dX12_draw_9 (by decide +kernel) rfl ?_
  refine g_iadd (q := 13) dX12_draw_12 rfl ?_
  refine g_putI (q := 16) (kI := 20) fX12_319 (by first | assumption | exact S.at _ rfl) dX12_draw_13 rfl rfl ?_
  refine g_aload_n (q := 17) dX12_draw_16 rfl rfl ?_
  refine g_getI (q := 20) (kI := 20) fX12_319 (by first | assumption | exact S.at _ rfl) dX12_draw_17 rfl rfl ?_
  rw [hq]
  refine g_bipush (q := 22) dX12_draw_20 (by decide +kernel) rfl ?_
  refine g_iushr (q := 23) dX12_draw_22 rfl ?_
  refine g_iload_n (q := 24) dX12_draw_23 rfl rfl ?_
  refine g_irem (q := 25) dX12_draw_24 (by rcases hb with rfl | rfl | rfl <;> decide) rfl ?_
  rw [hv]
  refine g_ireturn dX12_draw_25 rfl ?_
  exact ⟨_, rfl, rfl, rfl⟩
theorem tw_drawn (S : SH sh) : Mt YX12_drawn (d + 1) [.inr (.inr 92)] sh sh ct (pI fun r c => r = (drwn (ct 92 20)).1 ∧ c 92 20 = (drwn (ct 92 20)).2 ∧ (∀ k, k ≠ 20 → c 92 k = ct 92 k) ∧ eqBut [92] ct c) := by
  have v1 := drwV_in (drw (ct 92 20)) (b := 6) (by decide)
  generalize hP : (pI fun r c => r = (drwn (ct 92 20)).1 ∧ c 92 20 = (drwn (ct 92 20)).2 ∧ (∀ k, k ≠ 20 → c 92 k = ct 92 k) ∧ eqBut [92] ct c) = Po
  refine Mt.of rfl (Nat.le_of_ble_eq_true rfl) ?_
  show G _ 0 [some (.inr (.inr 92)), none, none] [] sh ct
  refine g_aload_n (q := 1) dX12_drawn_0 rfl rfl ?_
  refine g_bipush (q := 3) dX12_drawn_1 (by decide +kernel) rfl ?_
  refine g_callV (q := 6) lX12_322 mX12_draw nX12_draw rfl (tw_draw d sh _ S (Or.inl rfl)) (by first | assumption | exact S.at _ rfl) rfl rfl shLe.rf (rmOk.mk (by omega) (by first | exact shLe.rf | assumption)) (Nat.le_of_ble_eq_true rfl) dX12_drawn_3 rfl rfl (kI fun r c1 hp => ?_)
  obtain ⟨rfl, hc1⟩ := hp
  have x1 : c1 92 20 = drw (ct 92 20) := by rw [hc1, wr_eq]
  have k1 : ∀ k, k ≠ 20 → c1 92 k = ct 92 k := fun k hk => by rw [hc1, wr_nk hk]
  have e1 : eqBut [92] ct c1 := by rw [hc1]; exact eqBut.rf.wr (by decide)
  refine s_istore_n_3_1 (q := 7) dX12_drawn_6 rfl rfl rfl ?_
  refine g_iload_n (q := 8) dX12_drawn_7 rfl rfl ?_
  refine g_iconst (q := 9) dX12_drawn_8 rfl ?_
  refine g_icmp_ne (q := 12) (tg := 14) dX12_drawn_9 (by decide) rfl (fun c_9 => ?_) (fun c_9 => ?_)
  · have h5 : drwV (drw (ct 92 20)) 6 ≠ 5 := fun z => c_9 (by rw [z])
    refine g_aload_n (q := 15) dX12_drawn_14 rfl rfl ?_
    refine g_bipush (q := 17) dX12_drawn_15 (by decide +kernel) rfl ?_
    refine g_callV (q := 20) lX12_322 mX12_draw nX12_draw rfl (tw_draw d sh _ S (Or.inl rfl)) (by first | assumption | exact S.at _ rfl) rfl rfl shLe.rf (rmOk.mk (by omega) (by first | exact shLe.rf | assumption)) (Nat.le_of_ble_eq_true rfl) dX12_drawn_17 rfl rfl (kI fun r c2 hp => ?_)
    obtain ⟨rfl, hc2⟩ := hp
    rw [x1] at hc2 ⊢
    have x2 : c2 92 20 = drw (drw (ct 92 20)) := by rw [hc2, wr_eq]
    have k2 : ∀ k, k ≠ 20 → c2 92 k = ct 92 k := fun k hk => by rw [hc2, wr_nk hk]; exact k1 k hk
    have e2 : eqBut [92] ct c2 := by rw [hc2]; exact e1.wr (by decide)
    refine s_istore_n_3_2 (q := 21) dX12_drawn_20 rfl rfl rfl ?_
    refine g_iload_n (q := 22) dX12_drawn_21 rfl rfl ?_
    refine g_iconst (q := 23) dX12_drawn_22 rfl ?_
    refine g_icmp_ge (q := 26) (tg := 40) dX12_drawn_23 (by decide) rfl (fun c_23 => ?_) (fun c_23 => ?_)
    · refine g_bipush (q := 42) dX12_drawn_40 (by decide +kernel) rfl ?_
      refine g_bipush (q := 44) dX12_drawn_42 (by decide +kernel) rfl ?_
      refine g_iload_n (q := 45) dX12_drawn_44 rfl rfl ?_
      refine g_imul (q := 46) dX12_drawn_45 rfl ?_
      refine g_iadd (q := 47) dX12_drawn_46 rfl ?_
      refine g_aload_n (q := 48) dX12_drawn_47 rfl rfl ?_
      refine g_bipush (q := 50) dX12_drawn_48 (by decide +kernel) rfl ?_
      refine g_callV (q := 53) lX12_322 mX12_draw nX12_draw rfl (tw_draw d sh _ S (Or.inr (Or.inr rfl))) (by first | assumption | exact S.at _ rfl) rfl rfl shLe.rf (rmOk.mk (by omega) (by first | exact shLe.rf | assumption)) (Nat.le_of_ble_eq_true rfl) dX12_drawn_50 rfl rfl (kI fun r c3 hp => ?_)
      obtain ⟨rfl, hc3⟩ := hp
      rw [x2] at hc3 ⊢
      refine g_iadd (q := 54) dX12_drawn_53 rfl ?_
      refine g_ireturn dX12_drawn_54 rfl ?_
      rw [← hP]
      have hd : drwn (ct 92 20) = (100 + 10 * drwV (drw (drw (ct 92 20))) 6 + drwV (drw (drw (drw (ct 92 20)))) 10, drw (drw (drw (ct 92 20)))) := by
        unfold drwn
        rw [if_neg h5, if_neg (by unfold w32 at c_23; omega)]
      rw [hd]
      exact ⟨_, rfl, rfl, by rw [hc3, wr_eq], fun k hk => by rw [hc3, wr_nk hk]; exact k2 k hk, by rw [hc3]; exact e2.wr (by decide)⟩
    · refine g_bipush (q := 28) dX12_drawn_26 (by decide +kernel) rfl ?_
      refine g_iload_n (q := 29) dX12_drawn_28 rfl rfl ?_
      refine g_imul (q := 30) dX12_drawn_29 rfl ?_
      refine g_aload_n (q := 31) dX12_drawn_30 rfl rfl ?_
      refine g_bipush (q := 33) dX12_drawn_31 (by decide +kernel) rfl ?_
      refine g_callV (q := 36) lX12_322 mX12_draw nX12_draw rfl (tw_draw d sh _ S (Or.inr (Or.inl rfl))) (by first | assumption | exact S.at _ rfl) rfl rfl shLe.rf (rmOk.mk (by omega) (by first | exact shLe.rf | assumption)) (Nat.le_of_ble_eq_true rfl) dX12_drawn_33 rfl rfl (kI fun r c3 hp => ?_)
      obtain ⟨rfl, hc3⟩ := hp
      rw [x2] at hc3 ⊢
      refine g_iadd (q := 37) dX12_drawn_36 rfl ?_
      refine g_goto (q := 54) dX12_drawn_37 (by decide) ?_
      refine g_ireturn dX12_drawn_54 rfl ?_
      rw [← hP]
      have hd : drwn (ct 92 20) = (10 * drwV (drw (drw (ct 92 20))) 6 + drwV (drw (drw (drw (ct 92 20)))) 8, drw (drw (drw (ct 92 20)))) := by
        unfold drwn
        rw [if_neg h5, if_pos (by unfold w32 at c_23; omega)]
      rw [hd]
      exact ⟨_, rfl, rfl, by rw [hc3, wr_eq], fun k hk => by rw [hc3, wr_nk hk]; exact k2 k hk, by rw [hc3]; exact e2.wr (by decide)⟩
  · refine g_iconst (q := 13) dX12_drawn_12 rfl ?_
    refine g_ireturn dX12_drawn_13 rfl ?_
    rw [← hP]
    have hd : drwn (ct 92 20) = (-1, drw (ct 92 20)) := by
      unfold drwn
      rw [if_pos (by unfold w32 at c_9; omega)]
    rw [hd]
    exact ⟨_, rfl, rfl, x1, k1, e1⟩
set_option maxRecDepth 4000 in
theorem tw_monday {x t : Int} (S : SH sh) (M : MP ct β s n pl) (ht : i32 t) : Mt YX12_monday (d + 6) [.inr (.inr 92), .inl x, .inl t] sh sh ct (pI fun r c => ((¬ (1 ≤ t ∧ t ≤ 40) ∧ r = -3 ∧ MP c β s n pl) ∨ ((1 ≤ t ∧ t ≤ 40) ∧ r = (mRun β t.toNat s x 0).2 ∧ ((r = 0 ∧ MP c β s n pl) ∨ (0 < r ∧ MP c β (mRun β t.toNat s x 0).1 (pushN n) (pushP n pl s))))) ∧ dF ct c) := by
  unfold i32 at ht
  have M0 := M.th (k := 0) (v := 0) (Or.inl rfl)
  have f0 := dF.th (ct := ct) (k := 0) (v := 0) (Or.inl rfl)
  generalize hP : (pI fun r c => ((¬ (1 ≤ t ∧ t ≤ 40) ∧ r = -3 ∧ MP c β s n pl) ∨ ((1 ≤ t ∧ t ≤ 40) ∧ r = (mRun β t.toNat s x 0).2 ∧ ((r = 0 ∧ MP c β s n pl) ∨ (0 < r ∧ MP c β (mRun β t.toNat s x 0).1 (pushN n) (pushP n pl s))))) ∧ dF ct c) = Po
  refine Mt.of rfl (Nat.le_of_ble_eq_true rfl) ?_
  show G _ 0 [some (.inr (.inr 92)), some (.inl x), some (.inl t), none, none, none] [] sh ct
  refine g_aload_n (q := 1) dX12_monday_0 rfl rfl ?_
  refine g_iconst (q := 2) dX12_monday_1 rfl ?_
  refine g_putI (q := 5) (kI := 0) fX12_1 (by first | assumption | exact S.at _ rfl) dX12_monday_2 rfl rfl ?_
  refine g_iload_n (q := 6) dX12_monday_5 rfl rfl ?_
  refine g_i2l (q := 7) dX12_monday_6 rfl ?_
  refine g_lconst1 (q := 8) dX12_monday_7 rfl ?_
  refine g_ldc2 (q := 11) dX12_monday_8 kX12_325 rfl ?_
  rw [w32_id (x := t) ht.1 ht.2]
  refine g_callS (q := 14) lX12_150 mX12_within sX12_within rfl (tw_within (d + 5) sh _) shLe.rf (rmOk.mk (by omega) (by first | exact shLe.rf | assumption)) (Nat.le_of_ble_eq_true rfl) dX12_monday_11 rfl rfl (kI fun r_ c_ hp => ?_)
  obtain ⟨hr, hq⟩ := hp
  replace hr := hr.symm
  replace hq := hq.symm
  subst hr hq
  refine g_if_ne (q := 17) (tg := 20) dX12_monday_14 (by decide) rfl (fun c_14 => ?_) (fun c_14 => ?_)
  · have h14 : 1 ≤ t ∧ t ≤ 40 := by
      have := wbn.mp c_14
      unfold w64 at this
      omega
    refine g_aload_n (q := 21) dX12_monday_20 rfl rfl ?_
    refine g_callV (q := 24) lX12_278 mX12_keeps nX12_keeps rfl (tw_keeps (d + 5) sh _ S M0.1.1 M0.1.2.2.1) (by first | assumption | exact S.at _ rfl) rfl rfl shLe.rf (rmOk.mk (by omega) (by first | exact shLe.rf | assumption)) (Nat.le_of_ble_eq_true rfl) dX12_monday_21 rfl rfl (kN fun c2 hp => ?_)
    obtain ⟨k2, e2⟩ := hp
    have M2 : MP c2 β s n pl := M0.eq (M0.1.1.eb e2 rfl) (e2 93 (by decide))
    have f2 := f0.tr (dF.of e2 rfl (frJ.of (e2 93 (by decide))))
    have M2' := M2.th (k := 20) (v := x) (Or.inr (Or.inr rfl))
    have f2' := f2.tr (dF.th (ct := c2) (k := 20) (v := x) (Or.inr (Or.inr rfl)))
    refine g_aload_n (q := 25) dX12_monday_24 rfl rfl ?_
    refine g_iload_n (q := 26) dX12_monday_25 rfl rfl ?_
    refine g_putI (q := 29) (kI := 20) fX12_319 (by first | assumption | exact S.at _ rfl) dX12_monday_26 rfl rfl ?_
    refine g_iconst (q := 30) dX12_monday_29 rfl ?_
    refine s_istore_n_6_3 (q := 31) dX12_monday_30 rfl rfl rfl ?_
    refine g_iconst (q := 32) dX12_monday_31 rfl ?_
    refine s_istore_6_4 (q := 34) dX12_monday_32 rfl rfl rfl ?_
    refine g_forA (α := Sit × Int × Int) (fun i a => [some (.inr (.inr 92)), some (.inl x), some (.inl t), some (.inl a.2.2), some (.inl i), none]) (fun i a c => (0 ≤ i ∧ 0 ≤ a.2.2 ∧ a.2.2 ≤ i ∧ (a.2.2 = 0 → a.1 = s)) ∧ dF ct c ∧ MP c β a.1 n pl ∧ c 92 20 = a.2.1 ∧ sitM (c 99) 0 s ∧ mRun β (t.toNat - i.toNat) a.1 a.2.1 a.2.2 = mRun β t.toNat s x 0) t ?_ ?_ (i := 0) (a := (s, x, 0)) (by omega) ⟨⟨by omega, by show (0 : Int) ≤ 0; omega, by show (0 : Int) ≤ 0; omega, fun _ => rfl⟩, f2', M2', wr_eq, by rw [wr_other _ _ _ _ _ (by decide)]; exact k2, rfl⟩ (by simp [lsSub])
    · rintro i ⟨u, z, m⟩ c hi ⟨⟨i0, m0, m1, hms⟩, f, M3, hz, hk, hrun⟩ kk
      dsimp only at m0 m1 hms M3 hz hrun
      have hdi := drwn_in z
      obtain ⟨r, hr⟩ : ∃ r, t.toNat - i.toNat = r + 1 := ⟨t.toNat - i.toNat - 1, by omega⟩
      have hr2 : t.toNat - (i + 1).toNat = r := by omega
      have hst : mRun β (r + 1) u z m = if whyV β u (drwn z).1 = 0 then mRun β r (doV β u (drwn z).1) (drwn z).2 (m + 1) else mRun β r u (drwn z).2 m := rfl
      rw [hr, hst] at hrun
      refine g_iload (q := 36) dX12_monday_34 rfl rfl ?_
      refine g_iload_n (q := 37) dX12_monday_36 rfl rfl ?_
      refine g_icmp_ge (q := 40) (tg := 74) dX12_monday_37 (by decide) rfl (fun c_37 => ?_) (fun c_37 => ?_)
      · exact absurd c_37 (by unfold w32; omega)
      · refine g_aload_n (q := 41) dX12_monday_40 rfl rfl ?_
        refine g_callV (q := 44) lX12_327 mX12_drawn nX12_drawn rfl (tw_drawn (d + 4) sh _ S) (by first | assumption | exact S.at _ rfl) rfl rfl shLe.rf (rmOk.mk (by omega) (by first | exact shLe.rf | assumption)) (Nat.le_of_ble_eq_true rfl) dX12_monday_41 rfl rfl (kI fun v c3 hp => ?_)
        rw [hz] at hp
        obtain ⟨rfl, hz3, hk3, e3⟩ := hp
        have f3 : dF ct c3 := f.tr ⟨e3.mono (by decide), fun k _ _ a => hk3 k a, frJ.of (e3 93 (by decide))⟩
        have M3' : MP c3 β u n pl := M3.eq (f3.L M.1.1) (e3 93 (by decide))
        refine s_istore_6_5 (q := 46) dX12_monday_44 rfl rfl rfl ?_
        refine g_aload_n (q := 47) dX12_monday_46 rfl rfl ?_
        refine g_iload (q := 49) dX12_monday_47 rfl rfl ?_
        refine g_i2l (q := 50) dX12_monday_49 rfl ?_
        rw [w32_id (x := (drwn z).1) (by omega) (by omega)]
        refine g_callV (q := 53) lX12_300 mX12_whyNot nX12_whyNot rfl (tw_whyNot d sh _ S M3'.1 (by unfold i64; omega)) (by first | assumption | exact S.at _ rfl) rfl rfl shLe.rf (rmOk.mk (by omega) (by first | exact shLe.rf | assumption)) (Nat.le_of_ble_eq_true rfl) dX12_monday_50 rfl rfl (kI fun y c4 hp => ?_)
        obtain ⟨rfl, e4⟩ := hp
        have f4 := f3.tr (dF.of e4 rfl (frJ.of (e4 93 (by decide))))
        have M4 : MP c4 β u n pl := M3'.eq (f4.L M.1.1) (e4 93 (by decide))
        have hwi := whyV_in β u (drwn z).1
        have hk4 : sitM (c4 99) 0 s := by rw [e4 99 (by decide), e3 99 (by decide)]; exact hk
        have hz4 : c4 92 20 = (drwn z).2 := by rw [e4 92 (by decide)]; exact hz3
        refine g_if_eq (q := 56) (tg := 59) dX12_monday_53 (by decide) rfl (fun c_53 => ?_) (fun c_53 => ?_)
        · have h0 : whyV β u (drwn z).1 = 0 := by unfold w32 at c_53; omega
          rw [if_pos h0] at hrun
          refine g_aload_n (q := 60) dX12_monday_59 rfl rfl ?_
          refine g_iload (q := 62) dX12_monday_60 rfl rfl ?_
          refine g_callV (q := 65) lX12_304 mX12_does nX12_does rfl (tw_does (d + 2) sh _ S M4.1 h0) (by first | assumption | exact S.at _ rfl) rfl rfl shLe.rf (rmOk.mk (by omega) (by first | exact shLe.rf | assumption)) (Nat.le_of_ble_eq_true rfl) dX12_monday_62 rfl rfl (kN fun c5 hp => ?_)
          obtain ⟨M5, fr5, e5⟩ := hp
          have f5 := f4.tr (dF.of e5 rfl (fr5.mono (by decide) (by decide)))
          refine s_iinc_6_3 (q := 68) dX12_monday_65 rfl rfl rfl ?_
          refine s_iinc_6_4 (q := 71) dX12_monday_68 rfl rfl rfl ?_
          refine g_goto (q := 34) dX12_monday_71 (by decide) ?_
          refine kk (doV β u (drwn z).1, (drwn z).2, m + 1) _ _ (by simp [lsSub]) ⟨⟨by omega, by show 0 ≤ m + 1; omega, by show m + 1 ≤ i + 1; omega, fun q => by have q' : m + 1 = 0 := q; omega⟩, f5, ⟨M5, M4.2.fr fr5⟩, by rw [e5 92 (by decide)]; exact hz4, by rw [e5 99 (by decide)]; exact hk4, ?_⟩
          rw [hr2]
          exact hrun
        · rw [if_neg (fun q => c_53 (by rw [q]; rfl))] at hrun
          refine g_goto (q := 68) dX12_monday_56 (by decide) ?_
          refine s_iinc_6_4 (q := 71) dX12_monday_68 rfl rfl rfl ?_
          refine g_goto (q := 34) dX12_monday_71 (by decide) ?_
          refine kk (u, (drwn z).2, m) _ _ (by simp [lsSub]) ⟨⟨by omega, m0, by show m ≤ i + 1; omega, hms⟩, f4, M4, hz4, hk4, ?_⟩
          rw [hr2]
          exact hrun
    · rintro ⟨u, z, m⟩ c ⟨⟨i0, m0, m1, hms⟩, f, M3, hz, hk, hrun⟩
      dsimp only at m0 m1 hms M3 hz hrun
      rw [show t.toNat - t.toNat = 0 by omega] at hrun
      have hr1 : (mRun β t.toNat s x 0).1 = u := by rw [← hrun]; rfl
      have hr2 : (mRun β t.toNat s x 0).2 = m := by rw [← hrun]; rfl
      rw [hr1, hr2] at hP
      refine g_iload (q := 36) dX12_monday_34 rfl rfl ?_
      refine g_iload_n (q := 37) dX12_monday_36 rfl rfl ?_
      refine g_icmp_ge (q := 40) (tg := 74) dX12_monday_37 (by decide) rfl (fun c_37 => ?_) (fun c_37 => ?_)
      · refine g_iload_n (q := 75) dX12_monday_74 rfl rfl ?_
        refine g_if_le (q := 78) (tg := 82) dX12_monday_75 (by decide) rfl (fun c_75 => ?_) (fun c_75 => ?_)
        · dsimp only at c_75
          have hm0 : m = 0 := by unfold w32 at c_75; omega
          have hus := hms hm0
          subst hus
          refine g_iload_n (q := 83) dX12_monday_82 rfl rfl ?_
          refine g_ireturn dX12_monday_83 rfl ?_
          rw [← hP]
          exact ⟨_, rfl, Or.inr ⟨h14, rfl, Or.inl ⟨hm0, M3⟩⟩, f⟩
        · dsimp only at c_75
          have hmpos : 0 < m := by unfold w32 at c_75; omega
          refine g_aload_n (q := 79) dX12_monday_78 rfl rfl ?_
          refine g_callV (q := 82) lX12_285 mX12_notes nX12_notes rfl (tw_notes (d + 5) sh _ S M3 (w := s) hk M.1.2.2.2) (by first | assumption | exact S.at _ rfl) rfl rfl shLe.rf (rmOk.mk (by omega) (by first | exact shLe.rf | assumption)) (Nat.le_of_ble_eq_true rfl) dX12_monday_79 rfl rfl (kN fun c4 hp => ?_)
          obtain ⟨M4, e4, fr4⟩ := hp
          refine g_iload_n (q := 83) dX12_monday_82 rfl rfl ?_
          refine g_ireturn dX12_monday_83 rfl ?_
          rw [← hP]
          exact ⟨_, rfl, Or.inr ⟨h14, rfl, Or.inr ⟨hmpos, M4⟩⟩, f.tr (dF.of e4 rfl (fr4.mono (by decide) (by decide)))⟩
      · exact absurd c_37 (Int.lt_irrefl _)
  · refine g_bipush (q := 19) dX12_monday_17 (by decide +kernel) rfl ?_
    refine g_ireturn dX12_monday_19 rfl ?_
    rw [← hP]
    refine ⟨_, rfl, Or.inl ⟨fun q => ?_, rfl, M0⟩, f0⟩
    have := wb0.mp c_14
    unfold w64 at this
    omega
end
