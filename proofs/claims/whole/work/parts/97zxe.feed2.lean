/-! feed, once more: the bytes behind it stand -/
section
variable (d : Nat) (sh : mbSh) (ct : mbCt)
theorem x_tapeInt2 {a tn : Int} (S : SH sh) (L : LK ct) (h1 : ct 0 1 = tn) (t0 : 0 ≤ tn) (t1 : tn + 4 ≤ 900) : Mt YX11_tapeInt d [.inr (.inr 0), .inl a] sh sh ct (pN fun c => c 0 1 = tn + 4 ∧ (∀ k, 0 ≤ k → k < 4 → c 1 (tn + k) = w8 (shrI a (24 - 8 * k))) ∧ (∀ j, (j < tn ∨ tn + 4 ≤ j) → c 1 j = ct 1 j) ∧ (∀ k, k ≠ 1 → c 0 k = ct 0 k) ∧ eqBut [0, 1] ct c) := by
  have s1 : shA sh 1 = some (22, 900) := S.at _ rfl
  generalize hP : (pN fun c => c 0 1 = tn + 4 ∧ (∀ k, 0 ≤ k → k < 4 → c 1 (tn + k) = w8 (shrI a (24 - 8 * k))) ∧ (∀ j, (j < tn ∨ tn + 4 ≤ j) → c 1 j = ct 1 j) ∧ (∀ k, k ≠ 1 → c 0 k = ct 0 k) ∧ eqBut [0, 1] ct c) = Po
  refine Mt.of rfl (Nat.le_of_ble_eq_true rfl) ?_
  show G _ 0 [some (.inr (.inr 0)), some (.inl a), none] [] sh ct
  refine g_bipush (q := 2) dX11_tapeInt_0 (by decide +kernel) rfl ?_
  refine s_istore_n_3_2 (q := 3) dX11_tapeInt_2 rfl rfl rfl ?_
  refine g_for (fun k => [some (.inr (.inr 0)), some (.inl a), some (.inl (24 - 8 * k))]) (fun k c => 0 ≤ k ∧ c 0 1 = tn + k ∧ (∀ j, 0 ≤ j → j < k → c 1 (tn + j) = w8 (shrI a (24 - 8 * j))) ∧ (∀ j, (j < tn ∨ tn + k ≤ j) → c 1 j = ct 1 j) ∧ (∀ k, k ≠ 1 → c 0 k = ct 0 k) ∧ eqBut [0, 1] ct c) 4 ?_ ?_ (i := 0) (by omega) ⟨by omega, by rw [h1, Int.add_zero], fun j _ _ => by omega, fun j _ => rfl, fun k hk => rfl, eqBut.rf⟩ (by simp [lsSub])
  · rintro k c hk ⟨k0, i5, i1, i2, i3, i4⟩ kk
    have L1 : c 0 0 = 1 := by rw [i3 0 (by decide)]; exact L.at _ _ rfl
    refine g_iload_n (q := 4) dX11_tapeInt_3 rfl rfl ?_
    refine g_if_lt (q := 7) (tg := 46) dX11_tapeInt_4 (by decide) rfl (fun c_4 => ?_) (fun c_4 => ?_)
    · exact absurd c_4 (by unfold w32; omega)
    · refine g_aload_n (q := 8) dX11_tapeInt_7 rfl rfl ?_
      refine g_getI (q := 11) (kI := 1) fX11_13 (by first | assumption | exact S.at _ rfl) dX11_tapeInt_8 rfl rfl ?_
      rw [i5]
      refine g_sipush (q := 14) dX11_tapeInt_11 (by decide +kernel) rfl ?_
      refine g_icmp_ge (q := 17) (tg := 40) dX11_tapeInt_14 (by decide) rfl (fun c_14 => ?_) (fun c_14 => ?_)
      · exact absurd c_14 (by unfold w32; omega)
      · refine g_aload_n (q := 18) dX11_tapeInt_17 rfl rfl ?_
        refine g_getA (q := 21) (kI := 0) fX11_9 (by first | assumption | exact S.at _ rfl) dX11_tapeInt_18 rfl rfl (by first | assumption | exact L.at _ _ rfl | exact LK.at (by assumption) _ _ rfl | ((repeat first | rewrite [wr_na (by decide)] | rewrite [wr_nk (by decide)] | rewrite [wa_na (by decide)]); first | assumption | exact LK.at (by assumption) _ _ rfl) | exact rfl) ?_
        refine g_aload_n (q := 22) dX11_tapeInt_21 rfl rfl ?_
        refine g_getI (q := 25) (kI := 1) fX11_13 (by first | assumption | exact S.at _ rfl) dX11_tapeInt_22 rfl rfl ?_
        rw [i5]
        refine g_iload_n (q := 26) dX11_tapeInt_25 rfl rfl ?_
        refine g_iload_n (q := 27) dX11_tapeInt_26 rfl rfl ?_
        refine g_ishr (q := 28) dX11_tapeInt_27 rfl ?_
        refine g_i2b (q := 29) dX11_tapeInt_28 rfl ?_
        refine g_bastore (q := 30) (by first | assumption | exact S.at _ rfl) (by omega) (by omega) (by omega) dX11_tapeInt_29 rfl ?_
        refine g_aload_n (q := 31) dX11_tapeInt_30 rfl rfl ?_
        refine g_dup (q := 32) dX11_tapeInt_31 rfl rfl ?_
        refine g_getI (q := 35) (kI := 1) fX11_13 (by first | assumption | exact S.at _ rfl) dX11_tapeInt_32 rfl rfl ?_
        have hq : ∀ z, wr c 1 (tn + k) z 0 1 = tn + k := fun z => by rw [wr_na (by decide)]; exact i5
        rw [hq]
        refine g_iconst (q := 36) dX11_tapeInt_35 rfl ?_
        refine g_iadd (q := 37) dX11_tapeInt_36 rfl ?_
        refine g_putI (q := 40) (kI := 1) fX11_13 (by first | assumption | exact S.at _ rfl) dX11_tapeInt_37 rfl rfl ?_
        refine s_iinc_3_2 (q := 43) dX11_tapeInt_40 rfl rfl rfl ?_
        refine g_goto (q := 3) dX11_tapeInt_43 (by decide) ?_
        refine kk _ _ (by simp [lsSub]; omega) ⟨by omega, by rw [wr_eq]; omega, fun j j0 j1 => ?_, fun j hj => ?_, fun j a => ?_, (i4.wr (by decide)).wr (by decide)⟩
        · rw [wr_na (by decide)]
          by_cases hjk : j = k
          · subst hjk
            rw [wr_eq]
            first | rfl | (unfold w8; omega)
          · rw [wr_nk (by omega)]
            exact i1 j j0 (by omega)
        · rw [wr_na (by decide), wr_nk (by omega)]
          exact i2 j (by omega)
        · rw [wr_nk a, wr_na (by decide)]
          exact i3 j a
  · rintro c ⟨-, i5, i1, i2, i3, i4⟩
    refine g_iload_n (q := 4) dX11_tapeInt_3 rfl rfl ?_
    refine g_if_lt (q := 7) (tg := 46) dX11_tapeInt_4 (by decide) rfl (fun c_4 => ?_) (fun c_4 => ?_)
    · refine g_return dX11_tapeInt_46 rfl ?_
      rw [← hP]
      exact ⟨rfl, i5, i1, i2, i3, i4⟩
    · exact absurd (show w32 (24 - 8 * 4) < 0 by decide) (by omega)
theorem x_feed2 {a1 a2 a3 a4 a5 tn : Int} (S : SH sh) (L : LK ct) (h1 : ct 0 1 = tn) (t0 : 0 ≤ tn) (t1 : tn ≤ 900) : Mt YX11_feed (d + 1) [.inr (.inr 0), .inl a1, .inl a2, .inl a3, .inl a4, .inl a5] sh sh ct (pI fun r c => (880 < tn ∧ r = -5 ∧ c = ct) ∨ (tn ≤ 880 ∧ r = tn + 20 ∧ c 0 1 = tn + 20 ∧ (∀ k, 0 ≤ k → k < 20 → ∃ z, c 1 (tn + k) = w8 z ∧ z % 256 = fdB a1 a2 a3 a4 a5 k) ∧ (∀ j, (j < tn ∨ tn + 20 ≤ j) → c 1 j = ct 1 j) ∧ (∀ k, k ≠ 1 → c 0 k = ct 0 k) ∧ eqBut [0, 1] ct c)) := by
  have LE : ∀ c : mbCt, (∀ k, k ≠ 1 → c 0 k = ct 0 k) → eqBut [0, 1] ct c → LK c := by
    intro c h2 h3 x k v hv
    by_cases hx : x = 0
    · subst hx
      by_cases hk : k = 1
      · subst hk; cases hv
      · rw [h2 k hk]; exact L _ _ _ hv
    · by_cases hx1 : x = 1
      · subst hx1
        rw [lkF_none rfl k] at hv
        cases hv
      · rw [h3 x (by simp; omega)]
        exact L _ _ _ hv
  have w8m : ∀ z, w8 z % 256 = z % 256 := fun z => by unfold w8; omega
  generalize hP : (pI fun r c => (880 < tn ∧ r = -5 ∧ c = ct) ∨ (tn ≤ 880 ∧ r = tn + 20 ∧ c 0 1 = tn + 20 ∧ (∀ k, 0 ≤ k → k < 20 → ∃ z, c 1 (tn + k) = w8 z ∧ z % 256 = fdB a1 a2 a3 a4 a5 k) ∧ (∀ j, (j < tn ∨ tn + 20 ≤ j) → c 1 j = ct 1 j) ∧ (∀ k, k ≠ 1 → c 0 k = ct 0 k) ∧ eqBut [0, 1] ct c)) = Po
  refine Mt.of rfl (Nat.le_of_ble_eq_true rfl) ?_
  show G _ 0 [some (.inr (.inr 0)), some (.inl a1), some (.inl a2), some (.inl a3), some (.inl a4), some (.inl a5)] [] sh ct
  refine g_aload_n (q := 1) dX11_feed_0 rfl rfl ?_
  refine g_getI (q := 4) (kI := 1) fX11_13 (by first | assumption | exact S.at _ rfl) dX11_feed_1 rfl rfl ?_
  rw [h1]
  refine g_bipush (q := 6) dX11_feed_4 (by decide +kernel) rfl ?_
  refine g_iadd (q := 7) dX11_feed_6 rfl ?_
  refine g_sipush (q := 10) dX11_feed_7 (by decide +kernel) rfl ?_
  refine g_icmp_le (q := 13) (tg := 16) dX11_feed_10 (by decide) rfl (fun c_10 => ?_) (fun c_10 => ?_)
  · have ht : tn ≤ 880 := by unfold w32 at c_10; omega
    refine g_aload_n (q := 17) dX11_feed_16 rfl rfl ?_
    refine g_iload_n (q := 18) dX11_feed_17 rfl rfl ?_
    refine g_callV (q := 21) lX11_108 mX11_tapeInt nX11_tapeInt rfl (x_tapeInt2 d sh _ S L h1 t0 (by omega)) (by first | assumption | exact S.at _ rfl) rfl rfl shLe.rf (rmOk.mk (by omega) (by first | exact shLe.rf | assumption)) (Nat.le_of_ble_eq_true rfl) dX11_feed_18 rfl rfl (kN fun c1 hp => ?_)
    obtain ⟨p1, p2, p3, p4, p5⟩ := hp
    refine g_aload_n (q := 22) dX11_feed_21 rfl rfl ?_
    refine g_iload_n (q := 23) dX11_feed_22 rfl rfl ?_
    refine g_callV (q := 26) lX11_108 mX11_tapeInt nX11_tapeInt rfl (x_tapeInt2 d sh _ S (LE c1 p4 p5) p1 (by omega) (by omega)) (by first | assumption | exact S.at _ rfl) rfl rfl shLe.rf (rmOk.mk (by omega) (by first | exact shLe.rf | assumption)) (Nat.le_of_ble_eq_true rfl) dX11_feed_23 rfl rfl (kN fun c2 hp => ?_)
    obtain ⟨q1, q2, q3, q4, q5⟩ := hp
    have q4' : ∀ k, k ≠ 1 → c2 0 k = ct 0 k := fun k hk => (q4 k hk).trans (p4 k hk)
    have q5' := p5.tr q5
    refine g_aload_n (q := 27) dX11_feed_26 rfl rfl ?_
    refine g_iload_n (q := 28) dX11_feed_27 rfl rfl ?_
    refine g_callV (q := 31) lX11_108 mX11_tapeInt nX11_tapeInt rfl (x_tapeInt2 d sh _ S (LE c2 q4' q5') q1 (by omega) (by omega)) (by first | assumption | exact S.at _ rfl) rfl rfl shLe.rf (rmOk.mk (by omega) (by first | exact shLe.rf | assumption)) (Nat.le_of_ble_eq_true rfl) dX11_feed_28 rfl rfl (kN fun c3 hp => ?_)
    obtain ⟨r1, r2, r3, r4, r5⟩ := hp
    have r4' : ∀ k, k ≠ 1 → c3 0 k = ct 0 k := fun k hk => (r4 k hk).trans (q4' k hk)
    have r5' := q5'.tr r5
    refine g_aload_n (q := 32) dX11_feed_31 rfl rfl ?_
    refine g_iload (q := 34) dX11_feed_32 rfl rfl ?_
    refine g_callV (q := 37) lX11_108 mX11_tapeInt nX11_tapeInt rfl (x_tapeInt2 d sh _ S (LE c3 r4' r5') r1 (by omega) (by omega)) (by first | assumption | exact S.at _ rfl) rfl rfl shLe.rf (rmOk.mk (by omega) (by first | exact shLe.rf | assumption)) (Nat.le_of_ble_eq_true rfl) dX11_feed_34 rfl rfl (kN fun c4 hp => ?_)
    obtain ⟨s1, s2, s3, s4, s5⟩ := hp
    have s4' : ∀ k, k ≠ 1 → c4 0 k = ct 0 k := fun k hk => (s4 k hk).trans (r4' k hk)
    have s5' := r5'.tr s5
    refine g_aload_n (q := 38) dX11_feed_37 rfl rfl ?_
    refine g_iload (q := 40) dX11_feed_38 rfl rfl ?_
    refine g_callV (q := 43) lX11_108 mX11_tapeInt nX11_tapeInt rfl (x_tapeInt2 d sh _ S (LE c4 s4' s5') s1 (by omega) (by omega)) (by first | assumption | exact S.at _ rfl) rfl rfl shLe.rf (rmOk.mk (by omega) (by first | exact shLe.rf | assumption)) (Nat.le_of_ble_eq_true rfl) dX11_feed_40 rfl rfl (kN fun c5 hp => ?_)
    obtain ⟨u1, u2, u3, u4, u5⟩ := hp
    have hfin : c5 0 1 = tn + 20 := by omega
    refine g_aload_n (q := 44) dX11_feed_43 rfl rfl ?_
    refine g_getI (q := 47) (kI := 1) fX11_13 (by first | assumption | exact S.at _ rfl) dX11_feed_44 rfl rfl ?_
    rw [hfin]
    refine g_ireturn dX11_feed_47 rfl ?_
    rw [← hP]
    refine ⟨_, rfl, Or.inr ⟨ht, rfl, hfin, fun k k0 k1 => ?_, fun j hj => ?_, fun k hk => (u4 k hk).trans (s4' k hk), s5'.tr u5⟩⟩
    · unfold fdB
      rcases (show k < 4 ∨ (4 ≤ k ∧ k < 8) ∨ (8 ≤ k ∧ k < 12) ∨ (12 ≤ k ∧ k < 16) ∨ (16 ≤ k) by omega) with h | h | h | h | h
      · rw [if_pos h, show k % 4 = k by omega, u3 _ (by omega), s3 _ (by omega), r3 _ (by omega), q3 _ (by omega), p2 k k0 h]
        exact ⟨_, rfl, rfl⟩
      · have := q2 (k - 4) (by omega) (by omega)
        rw [show tn + 4 + (k - 4) = tn + k by omega] at this
        rw [if_neg (by omega), if_pos h.2, show k % 4 = k - 4 by omega, u3 _ (by omega), s3 _ (by omega), r3 _ (by omega), this]
        exact ⟨_, rfl, rfl⟩
      · have := r2 (k - 8) (by omega) (by omega)
        rw [show tn + 4 + 4 + (k - 8) = tn + k by omega] at this
        rw [if_neg (by omega), if_neg (by omega), if_pos h.2, show k % 4 = k - 8 by omega, u3 _ (by omega), s3 _ (by omega), this]
        exact ⟨_, rfl, rfl⟩
      · have := s2 (k - 12) (by omega) (by omega)
        rw [show tn + 4 + 4 + 4 + (k - 12) = tn + k by omega] at this
        rw [if_neg (by omega), if_neg (by omega), if_neg (by omega), if_pos h.2, show k % 4 = k - 12 by omega, u3 _ (by omega), this]
        exact ⟨_, rfl, rfl⟩
      · have := u2 (k - 16) (by omega) (by omega)
        rw [show tn + 4 + 4 + 4 + 4 + (k - 16) = tn + k by omega] at this
        rw [if_neg (by omega), if_neg (by omega), if_neg (by omega), if_neg (by omega), show k % 4 = k - 16 by omega, this]
        exact ⟨_, rfl, rfl⟩
    · rw [u3 j (by omega), s3 j (by omega), r3 j (by omega), q3 j (by omega), p3 j (by omega)]
  · have ht : 880 < tn := by unfold w32 at c_10; omega
    refine g_bipush (q := 15) dX11_feed_13 (by decide +kernel) rfl ?_
    refine g_ireturn dX11_feed_15 rfl ?_
    rw [← hP]
    exact ⟨_, rfl, Or.inl ⟨ht, rfl, rfl⟩⟩
end
