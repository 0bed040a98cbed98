/-! MinuteBook: what is open; minutes that fit a lost line -/
theorem dX11_minutesThatFit_0 : decode cX11_minutesThatFit 0 = .ok (.aload_n 0, 1) := by decide +kernel
theorem dX11_minutesThatFit_1 : decode cX11_minutesThatFit 1 = .ok (.getfield 79, 3) := by decide +kernel
theorem dX11_minutesThatFit_4 : decode cX11_minutesThatFit 4 = .ok (.aload_n 0, 1) := by decide +kernel
theorem dX11_minutesThatFit_5 : decode cX11_minutesThatFit 5 = .ok (.getfield 30, 3) := by decide +kernel
theorem dX11_minutesThatFit_8 : decode cX11_minutesThatFit 8 = .ok (.getfield 139, 3) := by decide +kernel
theorem dX11_minutesThatFit_11 : decode cX11_minutesThatFit 11 = .ok (.invokevirtual 273, 3) := by decide +kernel
theorem dX11_minutesThatFit_14 : decode cX11_minutesThatFit 14 = .ok (.aload_n 0, 1) := by decide +kernel
theorem dX11_minutesThatFit_15 : decode cX11_minutesThatFit 15 = .ok (.getfield 95, 3) := by decide +kernel
theorem dX11_minutesThatFit_18 : decode cX11_minutesThatFit 18 = .ok (.aload_n 0, 1) := by decide +kernel
theorem dX11_minutesThatFit_19 : decode cX11_minutesThatFit 19 = .ok (.getfield 30, 3) := by decide +kernel
theorem dX11_minutesThatFit_22 : decode cX11_minutesThatFit 22 = .ok (.getfield 151, 3) := by decide +kernel
theorem dX11_minutesThatFit_25 : decode cX11_minutesThatFit 25 = .ok (.iconst (-1), 1) := by decide +kernel
theorem dX11_minutesThatFit_26 : decode cX11_minutesThatFit 26 = .ok (.iconst 1, 1) := by decide +kernel
theorem dX11_minutesThatFit_27 : decode cX11_minutesThatFit 27 = .ok (.invokevirtual 336, 3) := by decide +kernel
theorem dX11_minutesThatFit_30 : decode cX11_minutesThatFit 30 = .ok (.pop, 1) := by decide +kernel
theorem dX11_minutesThatFit_31 : decode cX11_minutesThatFit 31 = .ok (.aload_n 0, 1) := by decide +kernel
theorem dX11_minutesThatFit_32 : decode cX11_minutesThatFit 32 = .ok (.getfield 95, 3) := by decide +kernel
theorem dX11_minutesThatFit_35 : decode cX11_minutesThatFit 35 = .ok (.iload_n 1, 1) := by decide +kernel
theorem dX11_minutesThatFit_36 : decode cX11_minutesThatFit 36 = .ok (.invokevirtual 353, 3) := by decide +kernel
theorem dX11_minutesThatFit_39 : decode cX11_minutesThatFit 39 = .ok (.lreturn, 1) := by decide +kernel
theorem dX11_sureMinute_0 : decode cX11_sureMinute 0 = .ok (.aload_n 0, 1) := by decide +kernel
theorem dX11_sureMinute_1 : decode cX11_sureMinute 1 = .ok (.iload_n 1, 1) := by decide +kernel
theorem dX11_sureMinute_2 : decode cX11_sureMinute 2 = .ok (.iload_n 2, 1) := by decide +kernel
theorem dX11_sureMinute_3 : decode cX11_sureMinute 3 = .ok (.invokevirtual 343, 3) := by decide +kernel
theorem dX11_sureMinute_6 : decode cX11_sureMinute 6 = .ok (.istore_n 3, 1) := by decide +kernel
theorem dX11_sureMinute_7 : decode cX11_sureMinute 7 = .ok (.iload_n 3, 1) := by decide +kernel
theorem dX11_sureMinute_8 : decode cX11_sureMinute 8 = .ok (.ifCond .eq 5, 3) := by decide +kernel
theorem dX11_sureMinute_11 : decode cX11_sureMinute 11 = .ok (.iload_n 3, 1) := by decide +kernel
theorem dX11_sureMinute_12 : decode cX11_sureMinute 12 = .ok (.ireturn, 1) := by decide +kernel
theorem dX11_sureMinute_13 : decode cX11_sureMinute 13 = .ok (.aload_n 0, 1) := by decide +kernel
theorem dX11_sureMinute_14 : decode cX11_sureMinute 14 = .ok (.iload_n 2, 1) := by decide +kernel
theorem dX11_sureMinute_15 : decode cX11_sureMinute 15 = .ok (.invokevirtual 347, 3) := by decide +kernel
theorem dX11_sureMinute_18 : decode cX11_sureMinute 18 = .ok (.lstore 4, 2) := by decide +kernel
theorem dX11_sureMinute_20 : decode cX11_sureMinute 20 = .ok (.lload 4, 2) := by decide +kernel
theorem dX11_sureMinute_22 : decode cX11_sureMinute 22 = .ok (.invokestatic 179, 3) := by decide +kernel
theorem dX11_sureMinute_25 : decode cX11_sureMinute 25 = .ok (.iconst 1, 1) := by decide +kernel
theorem dX11_sureMinute_26 : decode cX11_sureMinute 26 = .ok (.if_icmp .ne 11, 3) := by decide +kernel
theorem dX11_sureMinute_29 : decode cX11_sureMinute 29 = .ok (.lload 4, 2) := by decide +kernel
theorem dX11_sureMinute_31 : decode cX11_sureMinute 31 = .ok (.invokestatic 350, 3) := by decide +kernel
theorem dX11_sureMinute_34 : decode cX11_sureMinute 34 = .ok (.goto 4, 3) := by decide +kernel
theorem dX11_sureMinute_37 : decode cX11_sureMinute 37 = .ok (.iconst (-1), 1) := by decide +kernel
theorem dX11_sureMinute_38 : decode cX11_sureMinute 38 = .ok (.ireturn, 1) := by decide +kernel
theorem dX11_speakers_0 : decode cX11_speakers 0 = .ok (.aload_n 0, 1) := by decide +kernel
theorem dX11_speakers_1 : decode cX11_speakers 1 = .ok (.iload_n 1, 1) := by decide +kernel
theorem dX11_speakers_2 : decode cX11_speakers 2 = .ok (.iload_n 2, 1) := by decide +kernel
theorem dX11_speakers_3 : decode cX11_speakers 3 = .ok (.invokevirtual 343, 3) := by decide +kernel
theorem dX11_speakers_6 : decode cX11_speakers 6 = .ok (.istore_n 3, 1) := by decide +kernel
theorem dX11_speakers_7 : decode cX11_speakers 7 = .ok (.iload_n 3, 1) := by decide +kernel
theorem dX11_speakers_8 : decode cX11_speakers 8 = .ok (.ifCond .eq 5, 3) := by decide +kernel
theorem dX11_speakers_11 : decode cX11_speakers 11 = .ok (.iload_n 3, 1) := by decide +kernel
theorem dX11_speakers_12 : decode cX11_speakers 12 = .ok (.ireturn, 1) := by decide +kernel
theorem dX11_speakers_13 : decode cX11_speakers 13 = .ok (.aload_n 0, 1) := by decide +kernel
theorem dX11_speakers_14 : decode cX11_speakers 14 = .ok (.iload_n 2, 1) := by decide +kernel
theorem dX11_speakers_15 : decode cX11_speakers 15 = .ok (.invokevirtual 347, 3) := by decide +kernel
theorem dX11_speakers_18 : decode cX11_speakers 18 = .ok (.invokestatic 172, 3) := by decide +kernel
theorem dX11_speakers_21 : decode cX11_speakers 21 = .ok (.ireturn, 1) := by decide +kernel
theorem cntB_add (p : Nat → Bool) (m : Nat) : ∀ n, cntB p (m + n) = cntB p m + cntB (fun i => p (m + i)) n
  | 0 => rfl
  | n + 1 => by
    show cntB p (m + n) + (if p (m + n) = true then 1 else 0) = cntB p m + (cntB (fun i => p (m + i)) n + (if p (m + n) = true then 1 else 0))
    rw [cntB_add p m n]
    omega
theorem cntB_0 {p : Nat → Bool} : ∀ n, cntB p n = 0 ↔ ∀ i, i < n → p i = false
  | 0 => ⟨fun _ i hi => by omega, fun _ => rfl⟩
  | n + 1 => by
    have ih := cntB_0 (p := p) n
    show cntB p n + (if p n = true then 1 else 0) = 0 ↔ _
    constructor
    · intro h i hi
      by_cases hin : i = n
      · subst hin
        cases hp : p i
        · rfl
        · rw [hp] at h
          simp at h
      · exact ih.mp (by omega) i (by omega)
    · intro h
      rw [ih.mpr (fun i hi => h i (by omega)), h n (by omega)]
      rfl
theorem cntB_1 {p : Nat → Bool} : ∀ n, cntB p n = 1 ↔ ∃ k, k < n ∧ p k = true ∧ ∀ j, j < n → p j = true → j = k
  | 0 => ⟨fun h => (by cases h), fun ⟨k, h, _⟩ => (by omega)⟩
  | n + 1 => by
    have ih := cntB_1 (p := p) n
    have i0 := cntB_0 (p := p) n
    show cntB p n + (if p n = true then 1 else 0) = 1 ↔ _
    cases hp : p n
    · rw [if_neg (by decide), Nat.add_zero, ih]
      constructor
      · rintro ⟨k, h1, h2, h3⟩
        refine ⟨k, by omega, h2, fun j hj hpj => ?_⟩
        by_cases hjn : j = n
        · rw [hjn, hp] at hpj
          cases hpj
        · exact h3 j (by omega) hpj
      · rintro ⟨k, h1, h2, h3⟩
        have hkn : k ≠ n := fun z => by rw [z, hp] at h2; cases h2
        exact ⟨k, by omega, h2, fun j hj hpj => h3 j (by omega) hpj⟩
    · rw [if_pos rfl]
      constructor
      · intro h
        have h0 := i0.mp (by omega)
        refine ⟨n, by omega, hp, fun j hj hpj => ?_⟩
        by_cases hjn : j = n
        · exact hjn
        · rw [h0 j (by omega)] at hpj
          cases hpj
      · rintro ⟨k, h1, h2, h3⟩
        have hkn : n = k := h3 n (by omega) hp
        rw [i0.mpr (fun i hi => ?_)]
        cases hpi : p i
        · rfl
        · have := h3 i (by omega) hpi
          omega
section
variable (d : Nat) (sh : mbSh) (ct : mbCt) {b : Int} {β : Bk} {s : Sit} {q : Int} {N : Nat} {V : Int} {sz bt : Int → Int} {vl : Int → Int → Int}
theorem opn_cnt (h2 : 0 ≤ β.n 2 ∧ β.n 2 ≤ 6) (h3 : 0 ≤ β.n 3 ∧ β.n 3 ≤ 8) : cntB (canB β s.2.2 s.1) 48 = opnN β s (β.n 2).toNat := by
  have up : ∀ m : Nat, (m : Int) ≤ β.n 2 → cntB (canB β s.2.2 s.1) (8 * m) = opnN β s m := by
    intro m
    induction m with
    | zero => intro _; rfl
    | succ m ih =>
      intro hm
      rw [show 8 * (m + 1) = 8 * m + 8 by omega, cntB_add, ih (by omega)]
      show _ = opnN β s m + cntB (fun y => decide ((y : Int) < β.n 3) && β.W s.1 m (s.2.2 m) y) (8 + 2)
      rw [cntB_add _ 8 2]
      have z : cntB (fun i => decide (((8 + i : Nat) : Int) < β.n 3) && β.W s.1 m (s.2.2 m) ((8 + i : Nat) : Int)) 2 = 0 := (cntB_0 2).mpr (fun i hi => by
        rw [decide_eq_false (by omega)]
        rfl)
      rw [z, Nat.add_zero]
      congr 1
      apply cntB_cong
      intro y hy
      have c := canB_at (β := β) (mk := s.2.2) (st := s.1) (m := m) hy
      rw [Bool.eq_iff_iff, c, Bool.and_eq_true, decide_eq_true_eq]
      exact ⟨fun h => h.2, fun h => ⟨by omega, h⟩⟩
  have over : ∀ k : Nat, cntB (canB β s.2.2 s.1) (8 * ((β.n 2).toNat + k)) = opnN β s (β.n 2).toNat := by
    intro k
    induction k with
    | zero => exact up _ (by omega)
    | succ k ih =>
      rw [show 8 * ((β.n 2).toNat + (k + 1)) = 8 * ((β.n 2).toNat + k) + 8 by omega, cntB_add, ih, (cntB_0 8).mpr, Nat.add_zero]
      intro y hy
      cases hc : canB β s.2.2 s.1 (8 * ((β.n 2).toNat + k) + y)
      · rfl
      · have := (canB_at hy).mp hc
        omega
  have := over (6 - (β.n 2).toNat)
  rw [show (β.n 2).toNat + (6 - (β.n 2).toNat) = 6 by omega] at this
  exact this
theorem x_open (S : SH sh) (X : CX sh ct b β s q N V) (hV : V + 1 < 900000) : Mt YX11_open (d + 4) [.inr (.inr 0)] sh sh ct (pI fun r c => r = (opnN β s (β.n 2).toNat : Nat) ∧ CX sh c b β s q N (V + 1) ∧ kF q ct c) := by
  have hb2 := X.2.2.1.2.2.2.2.1
  have hb3 := X.2.2.1.2.2.2.2.2.1
  have hZ : msN β s.2.2 s.1 < 281474976710656 := bset_lt (canB β s.2.2 s.1) 48
  refine Mt.of rfl (Nat.le_of_ble_eq_true rfl) ?_
  show G _ 0 [some (.inr (.inr 0))] [] sh ct
  refine g_aload_n (q := 1) dX11_open_0 rfl rfl ?_
  refine g_callV (q := 4) lX11_143 mX11_minutesNow nX11_minutesNow rfl (x_minutesNow d sh _ S X hV) (by first | assumption | exact S.at _ rfl) rfl rfl shLe.rf (rmOk.mk (by omega) (by first | exact shLe.rf | assumption)) (Nat.le_of_ble_eq_true rfl) dX11_open_1 rfl rfl (kL fun r c1 hp => ?_)
  obtain ⟨rfl, X1, f1⟩ := hp
  refine g_callS (q := 7) lX11_179 mJ13_bitCount_95d88 sJ13_bitCount_95d88 rfl (c_bitCountL (d + 3) sh _ hZ) shLe.rf (rmOk.mk (by omega) (by first | exact shLe.rf | assumption)) (Nat.le_of_ble_eq_true rfl) dX11_open_4 rfl rfl (kI fun r_ c_ hp => ?_)
  obtain ⟨hr, hq⟩ := hp
  replace hr := hr.symm
  replace hq := hq.symm
  subst hr hq
  refine g_ireturn dX11_open_7 rfl ?_
  refine ⟨_, rfl, ?_, X1, f1⟩
  rw [← opn_cnt (s := s) hb2 hb3]
  congr 1
  apply cntB_cong
  intro i hi
  unfold msN
  rw [bset_bit]
  simp [hi]
theorem x_firstMinute {p : Nat → Bool} {k : Nat} (hk : k < 48) (hp : p k = true) (hmin : ∀ j, j < k → p j = false) : Mt YX11_firstMinute (d + 1) [.inr (.inl ((bset p 48 : Nat) : Int))] sh sh ct (pI fun r c => r = mnt k ∧ c = ct) := by
  have hZ : bset p 48 < 281474976710656 := bset_lt p 48
  generalize hP : (pI fun r c => r = mnt k ∧ c = ct) = Po
  refine Mt.of rfl (Nat.le_of_ble_eq_true rfl) ?_
  show G _ 0 [some (.inr (.inl ((bset p 48 : Nat) : Int))), none, none, none] [] sh ct
  refine g_iconst (q := 1) dX11_firstMinute_0 rfl ?_
  refine s_istore_n_4_2 (q := 2) dX11_firstMinute_1 rfl rfl rfl ?_
  refine g_for (fun m => [some (.inr (.inl ((bset p 48 : Nat) : Int))), none, some (.inl m), none]) (fun m c => 0 ≤ m ∧ m ≤ k / 8 ∧ c = ct) 6 ?_ ?_ (i := 0) (by omega) ⟨by omega, by omega, rfl⟩ (by simp [lsSub])
  · rintro m c hm ⟨m0, mk1, rfl⟩ kk
    refine g_iload_n (q := 3) dX11_firstMinute_2 rfl rfl ?_
    refine g_bipush (q := 5) dX11_firstMinute_3 (by decide +kernel) rfl ?_
    refine g_icmp_ge (q := 8) (tg := 47) dX11_firstMinute_5 (by decide) rfl (fun c_5 => ?_) (fun c_5 => ?_)
    · exact absurd c_5 (by unfold w32; omega)
    · refine g_iconst (q := 9) dX11_firstMinute_8 rfl ?_
      refine s_istore_n_4_3 (q := 10) dX11_firstMinute_9 rfl rfl rfl ?_
      refine g_for (fun y => [some (.inr (.inl ((bset p 48 : Nat) : Int))), none, some (.inl m), some (.inl y)]) (fun y c2 => 0 ≤ y ∧ 8 * m + y ≤ k ∧ c2 = c) 8 ?_ ?_ (i := 0) (by omega) ⟨by omega, by omega, rfl⟩ (by simp [lsSub])
      · rintro y c2 hy ⟨y0, yk, rfl⟩ k2
        have hbit : andL ((bset p 48 : Nat) : Int) (2 ^ (8 * m + y).toNat) = ((bset p 48 &&& 2 ^ (8 * m + y).toNat : Nat) : Int) := and_pow (by omega)
        have hb2 : (bset p 48).testBit (8 * m + y).toNat = p (8 * m + y).toNat := by
          rw [bset_bit]
          simp
          omega
        refine g_iload_n (q := 11) dX11_firstMinute_10 rfl rfl ?_
        refine g_bipush (q := 13) dX11_firstMinute_11 (by decide +kernel) rfl ?_
        refine g_icmp_ge (q := 16) (tg := 41) dX11_firstMinute_13 (by decide) rfl (fun c_13 => ?_) (fun c_13 => ?_)
        · exact absurd c_13 (by unfold w32; omega)
        · refine g_lload_n (q := 17) dX11_firstMinute_16 rfl rfl ?_
          refine g_iload_n (q := 18) dX11_firstMinute_17 rfl rfl ?_
          refine g_iload_n (q := 19) dX11_firstMinute_18 rfl rfl ?_
          refine g_callS (q := 22) lX11_446 mX11_minuteBit sX11_minuteBit rfl (c_minuteBit d sh _ m0 hm y0 hy) shLe.rf (rmOk.mk (by omega) (by first | exact shLe.rf | assumption)) (Nat.le_of_ble_eq_true rfl) dX11_firstMinute_19 rfl rfl (kL fun r_ c_ hp => ?_)
          obtain ⟨hr, hq⟩ := hp
          replace hr := hr.symm
          replace hq := hq.symm
          subst hr hq
          refine g_land (q := 23) dX11_firstMinute_22 rfl ?_
          rw [hbit]
          by_cases hpk : p (8 * m + y).toNat = true
          · have hke : (8 * m + y).toNat = k := by
              apply Classical.byContradiction
              intro z
              have := hmin (8 * m + y).toNat (by omega)
              rw [hpk] at this
              cases this
            have hpw : (2 : Nat) ^ (8 * m + y).toNat < 2 ^ 48 := Nat.pow_lt_pow_right (by decide) (by omega)
            have hu1 : bset p 48 &&& 2 ^ (8 * m + y).toNat < 2 ^ 48 := Nat.lt_of_le_of_lt Nat.and_le_right hpw
            have hu0 : bset p 48 &&& 2 ^ (8 * m + y).toNat ≠ 0 := fun z => by
              have := and_pow_0.mp z
              rw [hb2, hpk] at this
              cases this
            have hne : ¬ w64 ((bset p 48 &&& 2 ^ (8 * m + y).toNat : Nat) : Int) = w64 0 := by
              generalize bset p 48 &&& 2 ^ (8 * m + y).toNat = u at hu1 hu0
              rw [w64_id (by omega) (by omega), show w64 0 = 0 from rfl]
              omega
            refine g_lconst0 (q := 24) dX11_firstMinute_23 rfl ?_
            refine g_lcmp (q := 25) dX11_firstMinute_24 rfl ?_
            refine g_if_eq (q := 28) (tg := 35) dX11_firstMinute_25 (by decide) rfl (fun c_25 => ?_) (fun c_25 => ?_)
            · exact absurd (cmp_eq.mp c_25) hne
            · refine g_bipush (q := 30) dX11_firstMinute_28 (by decide +kernel) rfl ?_
              refine g_iload_n (q := 31) dX11_firstMinute_30 rfl rfl ?_
              refine g_imul (q := 32) dX11_firstMinute_31 rfl ?_
              refine g_iload_n (q := 33) dX11_firstMinute_32 rfl rfl ?_
              refine g_iadd (q := 34) dX11_firstMinute_33 rfl ?_
              refine g_ireturn dX11_firstMinute_34 rfl ?_
              rw [← hP]
              refine ⟨_, rfl, ?_, rfl⟩
              unfold mnt
              omega
          · rw [and_pow_0.mpr (by rw [hb2]; simpa using hpk)]
            refine g_lconst0 (q := 24) dX11_firstMinute_23 rfl ?_
            refine g_lcmp (q := 25) dX11_firstMinute_24 rfl ?_
            refine g_if_eq (q := 28) (tg := 35) dX11_firstMinute_25 (by decide) rfl (fun c_25 => ?_) (fun c_25 => ?_)
            · refine s_iinc_4_3 (q := 38) dX11_firstMinute_35 rfl rfl rfl ?_
              refine g_goto (q := 10) dX11_firstMinute_38 (by decide) ?_
              refine k2 _ _ (by simp [lsSub]) ⟨by omega, ?_, rfl⟩
              have : (8 * m + y).toNat ≠ k := fun z => hpk (by rw [z]; exact hp)
              omega
            · exact absurd (cmp_eq.mpr rfl) c_25
      · rintro c2 ⟨-, yk, rfl⟩
        refine g_iload_n (q := 11) dX11_firstMinute_10 rfl rfl ?_
        refine g_bipush (q := 13) dX11_firstMinute_11 (by decide +kernel) rfl ?_
        refine g_icmp_ge (q := 16) (tg := 41) dX11_firstMinute_13 (by decide) rfl (fun c_13 => ?_) (fun c_13 => ?_)
        · refine s_iinc_4_2 (q := 44) dX11_firstMinute_41 rfl rfl rfl ?_
          refine g_goto (q := 2) dX11_firstMinute_44 (by decide) ?_
          exact kk _ _ (by simp [lsSub]) ⟨by omega, by omega, rfl⟩
        · exact absurd c_13 (by decide)
  · rintro c ⟨-, mk1, rfl⟩
    exfalso
    omega
end
