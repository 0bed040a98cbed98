/-! MinuteBook: tones, the calmest way, the keyword, strokes -/
theorem Rn_shift {α : Type} {sc : α → List (Nat × α)} {goal : α → Prop} : ∀ (m : Nat) (x : α), Rn sc (fun y => ∃ q ∈ sc y, goal q.2) m x → Rn sc goal (m + 1) x
  | 0, x, h => h
  | m + 1, x, ⟨q, hq, h⟩ => ⟨q, hq, Rn_shift m q.2 h⟩
theorem BF.rch {α : Type} {sc : α → List (Nat × α)} {s0 : α} {nd : Nat → α} {pr : Nat → Nat} {n : Nat} (h : BF sc s0 nd pr n n []) : ∀ (j : Nat) (goal : α → Prop), j < n → goal (nd j) → ∃ m, Rn sc goal m s0 := by
  intro j
  induction j using Nat.strongRecOn with
  | ind j ih =>
    intro goal hj hg
    by_cases h0 : j = 0
    · subst h0
      rw [h.1.2] at hg
      exact ⟨0, hg⟩
    · obtain ⟨p1, -, q, hq, e⟩ := h.pl (by omega) hj
      obtain ⟨m, hm⟩ := ih (pr j) p1 (fun y => ∃ q ∈ sc y, goal q.2) (by omega) ⟨q, hq, by rw [e]; exact hg⟩
      exact ⟨m + 1, Rn_shift m _ hm⟩
theorem BF.ex {α : Type} {sc : α → List (Nat × α)} {s0 : α} {nd : Nat → α} {pr : Nat → Nat} {n : Nat} (h : BF sc s0 nd pr n n []) (goal : α → Prop) : (∃ m, Rn sc goal m s0) ↔ ∃ j, j < n ∧ goal (nd j) := by
  constructor
  · rintro ⟨m, hm⟩
    apply Classical.byContradiction
    intro hn
    exact h.none (goal := goal) (fun j hj hg => hn ⟨j, hj, hg⟩) m hm
  · rintro ⟨j, hj, hg⟩
    exact h.rch j goal hj hg
section
variable (d : Nat) (sh : mbSh) (ct : mbCt) {b : Int} {β : Bk} {s : Sit} {q : Int} {N : Nat} {V : Int}
theorem x_closed (S : SH sh) (X : CX sh ct b β s q N V) : Mt YX11_closed (d + 3) [.inr (.inr 0)] sh sh ct (pI fun r c => r = b01 (β.cl s.1 = true) ∧ CX sh c b β s q N V ∧ kF q ct c) := by
  have L := X.L
  obtain ⟨mk, hK⟩ := X.2.2.2.1
  have hst : ct 12 0 = s.1 := X.2.1.1
  have hrg := X.2.2.1.1.1
  refine Mt.of rfl (Nat.le_of_ble_eq_true rfl) ?_
  show G _ 0 [some (.inr (.inr 0))] [] sh ct
  refine g_aload_n (q := 1) dX11_closed_0 rfl rfl ?_
  refine g_getO (q := 4) (kI := 11) fX11_79 (by first | assumption | exact S.at _ rfl) dX11_closed_1 rfl rfl (by first | assumption | exact L.at _ _ rfl | exact LK.at (by assumption) _ _ rfl | ((repeat first | rewrite [wr_na (by decide)] | rewrite [wr_nk (by decide)] | rewrite [wa_na (by decide)]); first | assumption | exact LK.at (by assumption) _ _ rfl) | exact rfl) ?_
  refine g_aload_n (q := 5) dX11_closed_4 rfl rfl ?_
  refine g_getO (q := 8) (kI := 4) fX11_30 (by first | assumption | exact S.at _ rfl) dX11_closed_5 rfl rfl (by first | assumption | exact L.at _ _ rfl | exact LK.at (by assumption) _ _ rfl | ((repeat first | rewrite [wr_na (by decide)] | rewrite [wr_nk (by decide)] | rewrite [wa_na (by decide)]); first | assumption | exact LK.at (by assumption) _ _ rfl) | exact rfl) ?_
  refine g_getI (q := 11) (kI := 0) fX11_151 (by first | assumption | exact S.at _ rfl) dX11_closed_8 rfl rfl ?_
  rw [hst]
  refine g_callV (q := 14) lX11_176 mX4_closes nX4_closes rfl (m_closes d sh _ S hK.1 hrg.1 hrg.2) (by first | assumption | exact S.at _ rfl) rfl rfl shLe.rf (rmOk.mk (by omega) (by first | exact shLe.rf | assumption)) (Nat.le_of_ble_eq_true rfl) dX11_closed_11 rfl rfl (kI fun r c1 hp => ?_)
  obtain ⟨rfl, m⟩ := hp
  refine g_if_eq (q := 17) (tg := 21) dX11_closed_14 (by decide) rfl (fun c_14 => ?_) (fun c_14 => ?_)
  · refine g_iconst (q := 22) dX11_closed_21 rfl ?_
    refine g_ireturn dX11_closed_22 rfl ?_
    refine ⟨_, rfl, ?_, X.mvt ⟨mk, hK, m⟩, m.k⟩; first | exact b01_t (wbn.mp c_14) | exact b01_f (wb0.mp c_14)
  · refine g_iconst (q := 18) dX11_closed_17 rfl ?_
    refine g_goto (q := 22) dX11_closed_18 (by decide) ?_
    refine g_ireturn dX11_closed_22 rfl ?_
    refine ⟨_, rfl, ?_, X.mvt ⟨mk, hK, m⟩, m.k⟩; first | exact b01_t (wbn.mp c_14) | exact b01_f (wb0.mp c_14)
/-- all that can be reached was reached -/
def AL (c : mbCt) (β : Bk) (s : Sit) (q : Int) (N n : Nat) : Prop := WA c q N n β s.2.2 s.1
theorem x_exploreAll (S : SH sh) (X : CX sh ct b β s q N V) (hV : V + 1 < 900000) : Mt YX11_exploreAll (d + 5) [.inr (.inr 0)] sh sh ct (pN fun c => (∃ n, AL c β s q N n) ∧ CY sh c b β s q N (V + 1) ∧ kF q ct c) := by
  have L := X.L
  refine Mt.of rfl (Nat.le_of_ble_eq_true rfl) ?_
  show G _ 0 [some (.inr (.inr 0))] [] sh ct
  refine g_aload_n (q := 1) dX11_exploreAll_0 rfl rfl ?_
  refine g_getO (q := 4) (kI := 11) fX11_79 (by first | assumption | exact S.at _ rfl) dX11_exploreAll_1 rfl rfl (by first | assumption | exact L.at _ _ rfl | exact LK.at (by assumption) _ _ rfl | ((repeat first | rewrite [wr_na (by decide)] | rewrite [wr_nk (by decide)] | rewrite [wa_na (by decide)]); first | assumption | exact LK.at (by assumption) _ _ rfl) | exact rfl) ?_
  refine g_aload_n (q := 5) dX11_exploreAll_4 rfl rfl ?_
  refine g_getO (q := 8) (kI := 4) fX11_30 (by first | assumption | exact S.at _ rfl) dX11_exploreAll_5 rfl rfl (by first | assumption | exact L.at _ _ rfl | exact LK.at (by assumption) _ _ rfl | ((repeat first | rewrite [wr_na (by decide)] | rewrite [wr_nk (by decide)] | rewrite [wa_na (by decide)]); first | assumption | exact LK.at (by assumption) _ _ rfl) | exact rfl) ?_
  refine g_getA (q := 11) (kI := 2) fX11_139 (by first | assumption | exact S.at _ rfl) dX11_exploreAll_8 rfl rfl (by first | assumption | exact L.at _ _ rfl | exact LK.at (by assumption) _ _ rfl | ((repeat first | rewrite [wr_na (by decide)] | rewrite [wr_nk (by decide)] | rewrite [wa_na (by decide)]); first | assumption | exact LK.at (by assumption) _ _ rfl) | exact rfl) ?_
  refine g_callV (q := 14) lX11_273 mX4_heed nX4_heed rfl (x_heed (d + 3) sh _ S X hV) (by first | assumption | exact S.at _ rfl) rfl rfl shLe.rf (rmOk.mk (by omega) (by first | exact shLe.rf | assumption)) (Nat.le_of_ble_eq_true rfl) dX11_exploreAll_11 rfl rfl (kN fun c1 hp => ?_)
  obtain ⟨Y, f1⟩ := hp
  have L1 := Y.x.L
  have hst : c1 12 0 = s.1 := Y.2.1.1
  refine g_aload_n (q := 15) dX11_exploreAll_14 rfl rfl ?_
  refine g_getO (q := 18) (kI := 12) fX11_88 (by first | assumption | exact S.at _ rfl) dX11_exploreAll_15 rfl rfl (by first | assumption | exact L.at _ _ rfl | exact LK.at (by assumption) _ _ rfl | ((repeat first | rewrite [wr_na (by decide)] | rewrite [wr_nk (by decide)] | rewrite [wa_na (by decide)]); first | assumption | exact LK.at (by assumption) _ _ rfl) | exact rfl) ?_
  refine g_aload_n (q := 19) dX11_exploreAll_18 rfl rfl ?_
  refine g_getO (q := 22) (kI := 4) fX11_30 (by first | assumption | exact S.at _ rfl) dX11_exploreAll_19 rfl rfl (by first | assumption | exact L.at _ _ rfl | exact LK.at (by assumption) _ _ rfl | ((repeat first | rewrite [wr_na (by decide)] | rewrite [wr_nk (by decide)] | rewrite [wa_na (by decide)]); first | assumption | exact LK.at (by assumption) _ _ rfl) | exact rfl) ?_
  refine g_getI (q := 25) (kI := 0) fX11_151 (by first | assumption | exact S.at _ rfl) dX11_exploreAll_22 rfl rfl ?_
  rw [hst]
  refine g_bipush (q := 27) dX11_exploreAll_25 (by decide +kernel) rfl ?_
  refine g_ldc2 (q := 30) dX11_exploreAll_27 kX11_255 rfl ?_
  refine g_bipush (q := 32) dX11_exploreAll_30 (by decide +kernel) rfl ?_
  refine g_iconst (q := 33) dX11_exploreAll_32 rfl ?_
  refine g_callV (q := 36) lX11_309 mX10_find nX10_find rfl (x_find d sh _ S Y (by decide) (by decide) (by decide) (by decide) (by omega)) (by first | assumption | exact S.at _ rfl) rfl rfl shLe.rf (rmOk.mk (by omega) (by first | exact shLe.rf | assumption)) (Nat.le_of_ble_eq_true rfl) dX11_exploreAll_33 rfl rfl (kI fun r c2 hp => ?_)
  obtain ⟨⟨h1, h2, h3, h4, h5, h6, h7⟩, Y2, f2⟩ := hp
  refine g_pop (q := 37) dX11_exploreAll_36 rfl rfl ?_
  refine g_return dX11_exploreAll_37 rfl ?_
  exact ⟨rfl, h2.all h3 h4 h5 h6 h7, Y2, f1.tr f2⟩
theorem AL.any {c : mbCt} {n : Nat} (h : AL c β s q N n) (tone : Int) : anyW β s.2.2 s.1 (-1) (-1) 9 tone 0 ↔ ∃ j, j < n ∧ enB β (ndQ c q j).1 tone = true := by
  obtain ⟨h1, h2, h3, B, h5⟩ := h
  unfold anyW
  have e : (281474976710655 : Nat) = ((281474976710655 : Int) % 18446744073709551616).toNat := rfl
  rw [e, scW_use use_all (useN_ok (-1) (-1))] at B
  have := B.ex (goalW β tone 0)
  rw [show wM 0 = 0 from rfl]
  rw [this]
  constructor
  · rintro ⟨j, hj, hg⟩
    exact ⟨j, hj, hg.2⟩
  · rintro ⟨j, hj, hg⟩
    exact ⟨j, hj, h5 j hj, hg⟩
theorem x_tones (S : SH sh) (X : CX sh ct b β s q N V) (hV : V + 1 < 900000) : Mt YX11_tones (d + 6) [.inr (.inr 0)] sh sh ct (pI fun r c => qTones β s.2.2 s.1 r ∧ CX sh c b β s q N (V + 1) ∧ kF q ct c) := by
  generalize hP : (pI fun r c => qTones β s.2.2 s.1 r ∧ CX sh c b β s q N (V + 1) ∧ kF q ct c) = Po
  refine Mt.of rfl (Nat.le_of_ble_eq_true rfl) ?_
  show G _ 0 [some (.inr (.inr 0)), none, none, none] [] sh ct
  refine g_aload_n (q := 1) dX11_tones_0 rfl rfl ?_
  refine g_callV (q := 4) lX11_290 mX11_exploreAll nX11_exploreAll rfl (x_exploreAll d sh _ S X hV) (by first | assumption | exact S.at _ rfl) rfl rfl shLe.rf (rmOk.mk (by omega) (by first | exact shLe.rf | assumption)) (Nat.le_of_ble_eq_true rfl) dX11_tones_1 rfl rfl (kN fun c1 hp => ?_)
  obtain ⟨⟨n, A⟩, Y, f1⟩ := hp
  have hq := Y.x.qc
  have sq := Y.2.2.2.2.1
  have hN := Y.2.2.2.1.2.2.1.1.2.2.1
  have hA := A
  obtain ⟨a1, a2, a3, a4, a5⟩ := hA
  have h771 : c1 77 1 = q := Y.2.2.2.1.2.2.1.1.1
  refine g_iconst (q := 5) dX11_tones_4 rfl ?_
  refine s_istore_n_4_1 (q := 6) dX11_tones_5 rfl rfl rfl ?_
  refine g_iconst (q := 7) dX11_tones_6 rfl ?_
  refine s_istore_n_4_2 (q := 8) dX11_tones_7 rfl rfl rfl ?_
  refine g_forA (α := Nat → Bool) (fun i p => [some (.inr (.inr 0)), some (.inl ((bset p 10 : Nat) : Int)), some (.inl i), none]) (fun i p c => 0 ≤ i ∧ MVt c1 c b β s.2.2 ∧ ∀ t, t < 10 → (p t = true ↔ ∃ j : Nat, (j : Int) < i ∧ enB β (ndQ c1 q j).1 t = true)) n ?_ ?_ (i := 0) (a := fun _ => false) (by omega) ⟨by omega, Y.2.2.2.1.1.rf, fun t _ => ⟨fun z => by simp at z, fun ⟨j, hj, _⟩ => by omega⟩⟩ (by simp [lsSub]; decide)
  · rintro i p c hi ⟨i0, m, hp⟩ kk
    have e77 : c 77 = c1 77 := m.1 77 (by decide)
    have eq : c q = c1 q := m.1 q (qc_far hq)
    have L1 := m.2.L
    have ei : ((i.toNat : Nat) : Int) = i := by omega
    have h3 := a3 i.toNat (by omega)
    rw [ei] at h3
    have hs : 0 ≤ qSt (c1 q i) ∧ qSt (c1 q i) < 700 := by unfold qSt; omega
    have hnd : (ndQ c1 q i.toNat).1 = qSt (c1 q i) := by unfold ndQ; rw [ei]
    refine g_iload_n (q := 9) dX11_tones_8 rfl rfl ?_
    refine g_aload_n (q := 10) dX11_tones_9 rfl rfl ?_
    refine g_getO (q := 13) (kI := 12) fX11_88 (by first | assumption | exact S.at _ rfl) dX11_tones_10 rfl rfl (by first | assumption | exact L.at _ _ rfl | exact LK.at (by assumption) _ _ rfl | ((repeat first | rewrite [wr_na (by decide)] | rewrite [wr_nk (by decide)] | rewrite [wa_na (by decide)]); first | assumption | exact LK.at (by assumption) _ _ rfl) | exact rfl) ?_
    refine g_getI (q := 16) (kI := 2) fX11_293 (by first | assumption | exact S.at _ rfl) dX11_tones_13 rfl rfl ?_
    rw [e77, a1]
    refine g_icmp_ge (q := 19) (tg := 54) dX11_tones_16 (by decide) rfl (fun c_16 => ?_) (fun c_16 => ?_)
    · exact absurd c_16 (by unfold w32; omega)
    · refine g_aload_n (q := 20) dX11_tones_19 rfl rfl ?_
      refine g_getO (q := 23) (kI := 12) fX11_88 (by first | assumption | exact S.at _ rfl) dX11_tones_20 rfl rfl (by first | assumption | exact L.at _ _ rfl | exact LK.at (by assumption) _ _ rfl | ((repeat first | rewrite [wr_na (by decide)] | rewrite [wr_nk (by decide)] | rewrite [wa_na (by decide)]); first | assumption | exact LK.at (by assumption) _ _ rfl) | exact rfl) ?_
      refine g_iload_n (q := 24) dX11_tones_23 rfl rfl ?_
      refine g_callV (q := 27) lX11_294 mX10_stateAt nX10_stateAt rfl (c_stateAt (d + 5) sh c S (by rw [e77]; exact h771) sq (by omega) i0 (by omega) (by rw [eq]; exact h3.1) (by rw [eq]; exact h3.2.1)) (by first | assumption | exact S.at _ rfl) rfl rfl shLe.rf (rmOk.mk (by omega) (by first | exact shLe.rf | assumption)) (Nat.le_of_ble_eq_true rfl) dX11_tones_24 rfl rfl (kI fun r_ c_ hp => ?_)
      obtain ⟨hr, hq⟩ := hp
      replace hr := hr.symm
      replace hq := hq.symm
      subst hr hq
      rw [eq]
      refine s_istore_n_4_3 (q := 28) dX11_tones_27 rfl rfl rfl ?_
      refine g_aload_n (q := 29) dX11_tones_28 rfl rfl ?_
      refine g_getO (q := 32) (kI := 11) fX11_79 (by first | assumption | exact S.at _ rfl) dX11_tones_29 rfl rfl (by first | assumption | exact L.at _ _ rfl | exact LK.at (by assumption) _ _ rfl | ((repeat first | rewrite [wr_na (by decide)] | rewrite [wr_nk (by decide)] | rewrite [wa_na (by decide)]); first | assumption | exact LK.at (by assumption) _ _ rfl) | exact rfl) ?_
      refine g_iload_n (q := 33) dX11_tones_32 rfl rfl ?_
      refine g_callV (q := 36) lX11_176 mX4_closes nX4_closes rfl (m_closes (d + 3) sh _ S m.2 hs.1 hs.2) (by first | assumption | exact S.at _ rfl) rfl rfl shLe.rf (rmOk.mk (by omega) (by first | exact shLe.rf | assumption)) (Nat.le_of_ble_eq_true rfl) dX11_tones_33 rfl rfl (kI fun r c2 hp2 => ?_)
      obtain ⟨rfl, m2⟩ := hp2
      have mt := m.tr m2
      have hz10 := bset_lt p 10
      refine g_if_eq (q := 39) (tg := 48) dX11_tones_36 (by decide) rfl (fun c_36 => ?_) (fun c_36 => ?_)
      · have hncl := wb0.mp c_36
        refine s_iinc_4_2 (q := 51) dX11_tones_48 rfl rfl rfl ?_
        refine g_goto (q := 8) dX11_tones_51 (by decide) ?_
        refine kk p _ _ (by simp [lsSub]) ⟨by omega, mt, fun t ht => ?_⟩
        rw [hp t ht]
        constructor
        · rintro ⟨j, hj, h⟩
          exact ⟨j, by omega, h⟩
        · rintro ⟨j, hj, h⟩
          by_cases hji : (j : Int) = i
          · exfalso
            have : j = i.toNat := by omega
            rw [this, hnd] at h
            unfold enB at h
            rw [Bool.and_eq_true] at h
            exact hncl h.2
          · exact ⟨j, by omega, h⟩
      · have hcl := wbn.mp c_36
        have ht0 : ((qSt (c1 q i) / 70).toNat : Int) = qSt (c1 q i) / 70 := by omega
        have ht10 : (qSt (c1 q i) / 70).toNat < 10 := by omega
        refine g_iload_n (q := 40) dX11_tones_39 rfl rfl ?_
        refine g_iconst (q := 41) dX11_tones_40 rfl ?_
        refine g_iload_n (q := 42) dX11_tones_41 rfl rfl ?_
        refine g_callS (q := 45) lX11_297 mX11_toneOf sX11_toneOf rfl (c_toneOf (d + 5) sh _ hs.1 (by omega)) shLe.rf (rmOk.mk (by omega) (by first | exact shLe.rf | assumption)) (Nat.le_of_ble_eq_true rfl) dX11_tones_42 rfl rfl (kI fun r_ c_ hp => ?_)
        obtain ⟨hr, hq⟩ := hp
        replace hr := hr.symm
        replace hq := hq.symm
        subst hr hq
        have hsl : shlI 1 (qSt (c1 q i) / 70) = ((2 ^ (qSt (c1 q i) / 70).toNat : Nat) : Int) := by
          have := shlI_1 (m := (qSt (c1 q i) / 70).toNat) (by omega)
          rw [ht0] at this
          exact this
        have hp10 : 2 ^ (qSt (c1 q i) / 70).toNat < 2 ^ 10 := Nat.pow_lt_pow_right (by decide) ht10
        refine g_ishl (q := 46) dX11_tones_45 rfl ?_
        rw [hsl]
        refine g_ior (q := 47) dX11_tones_46 rfl ?_
        rw [orI_nat (by omega) (by omega), bset_or p ht10]
        refine s_istore_n_4_1 (q := 48) dX11_tones_47 rfl rfl rfl ?_
        refine s_iinc_4_2 (q := 51) dX11_tones_48 rfl rfl rfl ?_
        refine g_goto (q := 8) dX11_tones_51 (by decide) ?_
        refine kk (fun t => p t || decide (t = (qSt (c1 q i) / 70).toNat)) _ _ (by simp [lsSub]) ⟨by omega, mt, fun t ht => ?_⟩
        rw [Bool.or_eq_true, hp t ht, decide_eq_true_eq]
        constructor
        · rintro (⟨j, hj, h⟩ | h)
          · exact ⟨j, by omega, h⟩
          · refine ⟨i.toNat, by omega, ?_⟩
            rw [hnd]
            unfold enB
            rw [hcl, Bool.and_true, Bool.or_eq_true, decide_eq_true_eq, decide_eq_true_eq]
            right
            omega
        · rintro ⟨j, hj, h⟩
          by_cases hji : (j : Int) = i
          · right
            have : j = i.toNat := by omega
            rw [this, hnd] at h
            unfold enB at h
            rw [Bool.and_eq_true, Bool.or_eq_true, decide_eq_true_eq, decide_eq_true_eq] at h
            omega
          · left
            exact ⟨j, by omega, h⟩
  · rintro p c ⟨-, m, hp⟩
    have e77 : c 77 = c1 77 := m.1 77 (by decide)
    have L1 := m.2.L
    refine g_iload_n (q := 9) dX11_tones_8 rfl rfl ?_
    refine g_aload_n (q := 10) dX11_tones_9 rfl rfl ?_
    refine g_getO (q := 13) (kI := 12) fX11_88 (by first | assumption | exact S.at _ rfl) dX11_tones_10 rfl rfl (by first | assumption | exact L.at _ _ rfl | exact LK.at (by assumption) _ _ rfl | ((repeat first | rewrite [wr_na (by decide)] | rewrite [wr_nk (by decide)] | rewrite [wa_na (by decide)]); first | assumption | exact LK.at (by assumption) _ _ rfl) | exact rfl) ?_
    refine g_getI (q := 16) (kI := 2) fX11_293 (by first | assumption | exact S.at _ rfl) dX11_tones_13 rfl rfl ?_
    rw [e77, a1]
    refine g_icmp_ge (q := 19) (tg := 54) dX11_tones_16 (by decide) rfl (fun c_16 => ?_) (fun c_16 => ?_)
    · refine g_iload_n (q := 55) dX11_tones_54 rfl rfl ?_
      refine g_ireturn dX11_tones_55 rfl ?_
      rw [← hP]
      refine ⟨_, rfl, ⟨p, rfl, fun t ht => ?_⟩, (Y.mvt m).x, f1.tr m.k⟩
      rw [hp t ht]
      show (∃ j : Nat, _) ↔ anyW β s.2.2 s.1 (-1) (-1) 9 t 0
      rw [A.any]
      constructor
      · rintro ⟨j, hj, h⟩
        exact ⟨j, by omega, h⟩
      · rintro ⟨j, hj, h⟩
        exact ⟨j, by omega, h⟩
    · exact absurd c_16 (Int.lt_irrefl _)
/-- the calmest way: its heat; the search that was done last tells the rest -/
theorem x_calmestHeat {tone : Int} (S : SH sh) (X : CX sh ct b β s q N V) (hV : V + 1 < 900000) (t0 : -1 ≤ tone) (t1 : tone ≤ 9) : Mt YX11_calmestHeat (d + 5) [.inr (.inr 0), .inl tone] sh sh ct (pI fun r c => ((r = -1 ∧ ∀ h, s.1 / 7 % 10 ≤ h → h ≤ 9 → ¬ anyW β s.2.2 s.1 (-1) (-1) h tone 0) ∨ (clmH β s.2.2 s.1 tone r ∧ ∃ v, SB c β s q N tone 281474976710655 r 0 v)) ∧ CY sh c b β s q N (V + 1) ∧ kF q ct c) := by
  have L := X.L
  have hrg := X.2.2.1.1.1
  generalize hP : (pI fun r c => ((r = -1 ∧ ∀ h, s.1 / 7 % 10 ≤ h → h ≤ 9 → ¬ anyW β s.2.2 s.1 (-1) (-1) h tone 0) ∨ (clmH β s.2.2 s.1 tone r ∧ ∃ v, SB c β s q N tone 281474976710655 r 0 v)) ∧ CY sh c b β s q N (V + 1) ∧ kF q ct c) = Po
  refine Mt.of rfl (Nat.le_of_ble_eq_true rfl) ?_
  show G _ 0 [some (.inr (.inr 0)), some (.inl tone), none] [] sh ct
  refine g_aload_n (q := 1) dX11_calmestHeat_0 rfl rfl ?_
  refine g_getO (q := 4) (kI := 11) fX11_79 (by first | assumption | exact S.at _ rfl) dX11_calmestHeat_1 rfl rfl (by first | assumption | exact L.at _ _ rfl | exact LK.at (by assumption) _ _ rfl | ((repeat first | rewrite [wr_na (by decide)] | rewrite [wr_nk (by decide)] | rewrite [wa_na (by decide)]); first | assumption | exact LK.at (by assumption) _ _ rfl) | exact rfl) ?_
  refine g_aload_n (q := 5) dX11_calmestHeat_4 rfl rfl ?_
  refine g_getO (q := 8) (kI := 4) fX11_30 (by first | assumption | exact S.at _ rfl) dX11_calmestHeat_5 rfl rfl (by first | assumption | exact L.at _ _ rfl | exact LK.at (by assumption) _ _ rfl | ((repeat first | rewrite [wr_na (by decide)] | rewrite [wr_nk (by decide)] | rewrite [wa_na (by decide)]); first | assumption | exact LK.at (by assumption) _ _ rfl) | exact rfl) ?_
  refine g_getA (q := 11) (kI := 2) fX11_139 (by first | assumption | exact S.at _ rfl) dX11_calmestHeat_8 rfl rfl (by first | assumption | exact L.at _ _ rfl | exact LK.at (by assumption) _ _ rfl | ((repeat first | rewrite [wr_na (by decide)] | rewrite [wr_nk (by decide)] | rewrite [wa_na (by decide)]); first | assumption | exact LK.at (by assumption) _ _ rfl) | exact rfl) ?_
  refine g_callV (q := 14) lX11_273 mX4_heed nX4_heed rfl (x_heed (d + 3) sh _ S X hV) (by first | assumption | exact S.at _ rfl) rfl rfl shLe.rf (rmOk.mk (by omega) (by first | exact shLe.rf | assumption)) (Nat.le_of_ble_eq_true rfl) dX11_calmestHeat_11 rfl rfl (kN fun c1 hp => ?_)
  obtain ⟨Y, f1⟩ := hp
  have L1 := Y.x.L
  have hst : c1 12 0 = s.1 := Y.2.1.1
  refine g_aload_n (q := 15) dX11_calmestHeat_14 rfl rfl ?_
  refine g_getO (q := 18) (kI := 4) fX11_30 (by first | assumption | exact S.at _ rfl) dX11_calmestHeat_15 rfl rfl (by first | assumption | exact L.at _ _ rfl | exact LK.at (by assumption) _ _ rfl | ((repeat first | rewrite [wr_na (by decide)] | rewrite [wr_nk (by decide)] | rewrite [wa_na (by decide)]); first | assumption | exact LK.at (by assumption) _ _ rfl) | exact rfl) ?_
  refine g_getI (q := 21) (kI := 0) fX11_151 (by first | assumption | exact S.at _ rfl) dX11_calmestHeat_18 rfl rfl ?_
  rw [hst]
  refine g_callS (q := 24) lX11_306 mX11_heatOf sX11_heatOf rfl (c_heatOf (d + 4) sh _ hrg.1 (by omega)) shLe.rf (rmOk.mk (by omega) (by first | exact shLe.rf | assumption)) (Nat.le_of_ble_eq_true rfl) dX11_calmestHeat_21 rfl rfl (kI fun r_ c_ hp => ?_)
  obtain ⟨hr, hq⟩ := hp
  replace hr := hr.symm
  replace hq := hq.symm
  subst hr hq
  refine s_istore_n_3_2 (q := 25) dX11_calmestHeat_24 rfl rfl rfl ?_
  refine g_for (fun h => [some (.inr (.inr 0)), some (.inl tone), some (.inl h)]) (fun h c => s.1 / 7 % 10 ≤ h ∧ CY sh c b β s q N (V + 1) ∧ kF q ct c ∧ ∀ h', s.1 / 7 % 10 ≤ h' → h' < h → ¬ anyW β s.2.2 s.1 (-1) (-1) h' tone 0) 10 ?_ ?_ (i := s.1 / 7 % 10) (by omega) ⟨Int.le_refl _, Y, f1, fun h' _ _ => by omega⟩ (by simp [lsSub])
  · rintro h c hh ⟨h0, Y1, f, hno⟩ kk
    have L2 := Y1.x.L
    have hst1 : c 12 0 = s.1 := Y1.2.1.1
    refine g_iload_n (q := 26) dX11_calmestHeat_25 rfl rfl ?_
    refine g_bipush (q := 28) dX11_calmestHeat_26 (by decide +kernel) rfl ?_
    refine g_icmp_gt (q := 31) (tg := 63) dX11_calmestHeat_28 (by decide) rfl (fun c_28 => ?_) (fun c_28 => ?_)
    · exact absurd c_28 (by unfold w32; omega)
    · refine g_aload_n (q := 32) dX11_calmestHeat_31 rfl rfl ?_
      refine g_getO (q := 35) (kI := 12) fX11_88 (by first | assumption | exact S.at _ rfl) dX11_calmestHeat_32 rfl rfl (by first | assumption | exact L.at _ _ rfl | exact LK.at (by assumption) _ _ rfl | ((repeat first | rewrite [wr_na (by decide)] | rewrite [wr_nk (by decide)] | rewrite [wa_na (by decide)]); first | assumption | exact LK.at (by assumption) _ _ rfl) | exact rfl) ?_
      refine g_aload_n (q := 36) dX11_calmestHeat_35 rfl rfl ?_
      refine g_getO (q := 39) (kI := 4) fX11_30 (by first | assumption | exact S.at _ rfl) dX11_calmestHeat_36 rfl rfl (by first | assumption | exact L.at _ _ rfl | exact LK.at (by assumption) _ _ rfl | ((repeat first | rewrite [wr_na (by decide)] | rewrite [wr_nk (by decide)] | rewrite [wa_na (by decide)]); first | assumption | exact LK.at (by assumption) _ _ rfl) | exact rfl) ?_
      refine g_getI (q := 42) (kI := 0) fX11_151 (by first | assumption | exact S.at _ rfl) dX11_calmestHeat_39 rfl rfl ?_
      rw [hst1]
      refine g_iload_n (q := 43) dX11_calmestHeat_42 rfl rfl ?_
      refine g_ldc2 (q := 46) dX11_calmestHeat_43 kX11_255 rfl ?_
      refine g_iload_n (q := 47) dX11_calmestHeat_46 rfl rfl ?_
      refine g_iconst (q := 48) dX11_calmestHeat_47 rfl ?_
      refine g_callV (q := 51) lX11_309 mX10_find nX10_find rfl (x_find d sh _ S Y1 t0 (by omega) (by omega) (by omega) h0) (by first | assumption | exact S.at _ rfl) rfl rfl shLe.rf (rmOk.mk (by omega) (by first | exact shLe.rf | assumption)) (Nat.le_of_ble_eq_true rfl) dX11_calmestHeat_48 rfl rfl (kI fun r c2 hp => ?_)
      obtain ⟨B, Y2, f2⟩ := hp
      have hw := B.way use_all
      have hge := B.lt Y2.2.2.2.1.2.2.1.1.2.2.1.2
      refine g_iconst (q := 52) dX11_calmestHeat_51 rfl ?_
      refine g_icmp_eq (q := 55) (tg := 57) dX11_calmestHeat_52 (by decide) rfl (fun c_52 => ?_) (fun c_52 => ?_)
      · have hn : ¬ anyW β s.2.2 s.1 (-1) (-1) h tone 0 := hw.none.mp (by unfold w32 at c_52; omega)
        refine s_iinc_3_2 (q := 60) dX11_calmestHeat_57 rfl rfl rfl ?_
        refine g_goto (q := 25) dX11_calmestHeat_60 (by decide) ?_
        refine kk _ _ (by simp [lsSub]) ⟨by omega, Y2, f.tr f2, fun h' a b => ?_⟩
        by_cases he : h' = h
        · subst he
          exact hn
        · exact hno h' a (by omega)
      · refine g_iload_n (q := 56) dX11_calmestHeat_55 rfl rfl ?_
        refine g_ireturn dX11_calmestHeat_56 rfl ?_
        rw [← hP]
        refine ⟨_, rfl, Or.inr ⟨⟨h0, by omega, ?_, hno⟩, r, B⟩, Y2, f.tr f2⟩
        apply Classical.byContradiction
        intro z
        exact c_52 (by rw [hw.none.mpr z])
  · rintro c ⟨-, Y1, f, hno⟩
    refine g_iload_n (q := 26) dX11_calmestHeat_25 rfl rfl ?_
    refine g_bipush (q := 28) dX11_calmestHeat_26 (by decide +kernel) rfl ?_
    refine g_icmp_gt (q := 31) (tg := 63) dX11_calmestHeat_28 (by decide) rfl (fun c_28 => ?_) (fun c_28 => ?_)
    · refine g_iconst (q := 64) dX11_calmestHeat_63 rfl ?_
      refine g_ireturn dX11_calmestHeat_64 rfl ?_
      rw [← hP]
      exact ⟨_, rfl, Or.inl ⟨rfl, fun h a b => hno h a (by omega)⟩, Y1, f⟩
    · exact absurd c_28 (by decide)
theorem x_calmest {tone w : Int} (S : SH sh) (X : CX sh ct b β s q N V) (hV : V + 1 < 900000) (ht : i32 tone) (hw : i32 w) : Mt YX11_calmest (d + 6) [.inr (.inr 0), .inl tone, .inl w] sh sh ct (pI fun r c => qCalm β s.2.2 s.1 tone w r ∧ CX sh c b β s q N (V + 1) ∧ kF q ct c) := by
  have hw2 := hw
  unfold i32 at hw2
  have hrg := X.2.2.1.1.1
  generalize hP : (pI fun r c => qCalm β s.2.2 s.1 tone w r ∧ CX sh c b β s q N (V + 1) ∧ kF q ct c) = Po
  have at34 : ∀ a : Int, a = b01 (10 ≤ w ∧ w ≤ 29) → whOk w → G (mkK YX11_calmest (d + 6) sh sh Po) 34 [some (.inr (.inr 0)), some (.inl tone), some (.inl w), some (.inl a), none] [] sh ct := by
    intro a ha hk
    refine g_iload_n (q := 35) dX11_calmest_34 rfl rfl ?_
    refine g_callS (q := 38) lX11_252 mX11_isTone sX11_isTone rfl (x_isTone (d + 5) sh _ ht) shLe.rf (rmOk.mk (by omega) (by first | exact shLe.rf | assumption)) (Nat.le_of_ble_eq_true rfl) dX11_calmest_35 rfl rfl (kI fun r_ c_ hp => ?_)
    obtain ⟨hr, hq⟩ := hp
    replace hr := hr.symm
    replace hq := hq.symm
    subst hr hq
    refine g_if_ne (q := 41) (tg := 44) dX11_calmest_38 (by decide) rfl (fun c_38 => ?_) (fun c_38 => ?_)
    · have htn := wbn.mp c_38
      refine g_aload_n (q := 45) dX11_calmest_44 rfl rfl ?_
      refine g_iload_n (q := 46) dX11_calmest_45 rfl rfl ?_
      refine g_callV (q := 49) lX11_300 mX11_calmestHeat nX11_calmestHeat rfl (x_calmestHeat d sh _ S X hV htn.1 htn.2) (by first | assumption | exact S.at _ rfl) rfl rfl shLe.rf (rmOk.mk (by omega) (by first | exact shLe.rf | assumption)) (Nat.le_of_ble_eq_true rfl) dX11_calmest_46 rfl rfl (kI fun h c1 hp => ?_)
      obtain ⟨hor, Y, f1⟩ := hp
      have L1 := Y.x.L
      have fin : ∀ v c, CX sh c b β s q N (V + 1) → kF q ct c → ((v = -1 ∧ ∀ h, s.1 / 7 % 10 ≤ h → h ≤ 9 → ¬ anyW β s.2.2 s.1 (-1) (-1) h tone 0) ∨ ∃ h, clmH β s.2.2 s.1 tone h ∧ ((w = 0 ∧ v = h) ∨ (w = 1 ∧ wyS β s.2.2 s.1 (-1) (-1) h tone 0 v) ∨ (10 ≤ w ∧ miS β s.2.2 s.1 (-1) (-1) h tone 0 (w - 10) v))) → Po (some (.inl v)) c := by
        intro v c X1 f hv
        rw [← hP]
        exact ⟨_, rfl, Or.inr (Or.inr ⟨hk, htn, hv⟩), X1, f⟩
      rcases hor with ⟨rfl, hno⟩ | ⟨hc, v, B⟩
      · refine s_istore_5_4 (q := 51) dX11_calmest_49 rfl rfl rfl ?_
        refine g_iload (q := 53) dX11_calmest_51 rfl rfl ?_
        refine g_iconst (q := 54) dX11_calmest_53 rfl ?_
        refine g_icmp_eq (q := 57) (tg := 61) dX11_calmest_54 (by decide) rfl (fun c_54 => ?_) (fun c_54 => ?_)
        · refine g_iload (q := 63) dX11_calmest_61 rfl rfl ?_
          refine g_ireturn dX11_calmest_63 rfl ?_
          exact fin _ _ Y.x f1 (Or.inl ⟨rfl, hno⟩)
        · exact absurd rfl c_54
      · have hh0 := hc.1
        have hh1 := hc.2.1
        refine s_istore_5_4 (q := 51) dX11_calmest_49 rfl rfl rfl ?_
        refine g_iload (q := 53) dX11_calmest_51 rfl rfl ?_
        refine g_iconst (q := 54) dX11_calmest_53 rfl ?_
        refine g_icmp_eq (q := 57) (tg := 61) dX11_calmest_54 (by decide) rfl (fun c_54 => ?_) (fun c_54 => ?_)
        · exact absurd c_54 (by unfold w32; omega)
        · refine g_iload_n (q := 58) dX11_calmest_57 rfl rfl ?_
          refine g_if_ne (q := 61) (tg := 64) dX11_calmest_58 (by decide) rfl (fun c_58 => ?_) (fun c_58 => ?_)
          · have hw0 : w ≠ 0 := fun z => c_58 (by rw [z]; rfl)
            refine g_iload_n (q := 65) dX11_calmest_64 rfl rfl ?_
            refine g_if_eq (q := 68) (tg := 82) dX11_calmest_65 (by decide) rfl (fun c_65 => ?_) (fun c_65 => ?_)
            · have hw1 : w = 1 := by
                rw [ha] at c_65
                have := wb0.mp c_65
                rcases hk with h | h | h
                · exact absurd h hw0
                · exact h
                · exact absurd h this
              have h5 : c1 77 5 = v := B.1.symm
              refine g_aload_n (q := 83) dX11_calmest_82 rfl rfl ?_
              refine g_getO (q := 86) (kI := 12) fX11_88 (by first | assumption | exact S.at _ rfl) dX11_calmest_83 rfl rfl (by first | assumption | exact L.at _ _ rfl | exact LK.at (by assumption) _ _ rfl | ((repeat first | rewrite [wr_na (by decide)] | rewrite [wr_nk (by decide)] | rewrite [wa_na (by decide)]); first | assumption | exact LK.at (by assumption) _ _ rfl) | exact rfl) ?_
              refine g_getI (q := 89) (kI := 5) fX11_303 (by first | assumption | exact S.at _ rfl) dX11_calmest_86 rfl rfl ?_
              refine g_ireturn dX11_calmest_89 rfl ?_
              rw [h5]
              exact fin _ _ Y.x f1 (Or.inr ⟨h, hc, Or.inr (Or.inl ⟨hw1, B.way use_all⟩)⟩)
            · have h10 : 10 ≤ w ∧ w ≤ 29 := by
                rw [ha] at c_65
                exact wbn.mp c_65
              refine g_aload_n (q := 69) dX11_calmest_68 rfl rfl ?_
              refine g_getO (q := 72) (kI := 12) fX11_88 (by first | assumption | exact S.at _ rfl) dX11_calmest_69 rfl rfl (by first | assumption | exact L.at _ _ rfl | exact LK.at (by assumption) _ _ rfl | ((repeat first | rewrite [wr_na (by decide)] | rewrite [wr_nk (by decide)] | rewrite [wa_na (by decide)]); first | assumption | exact LK.at (by assumption) _ _ rfl) | exact rfl) ?_
              refine g_iload_n (q := 73) dX11_calmest_72 rfl rfl ?_
              refine g_bipush (q := 75) dX11_calmest_73 (by decide +kernel) rfl ?_
              refine g_isub (q := 76) dX11_calmest_75 rfl ?_
              refine g_callV (q := 79) lX11_261 mX10_minuteAt nX10_minuteAt rfl (x_minuteAt (d + 2) sh _ S Y B use_all (by unfold i32; omega)) (by first | assumption | exact S.at _ rfl) rfl rfl shLe.rf (rmOk.mk (by omega) (by first | exact shLe.rf | assumption)) (Nat.le_of_ble_eq_true rfl) dX11_calmest_76 rfl rfl (kI fun u c2 hp => ?_)
              obtain ⟨hm, Y2, f2⟩ := hp
              refine g_goto (q := 89) dX11_calmest_79 (by decide) ?_
              refine g_ireturn dX11_calmest_89 rfl ?_
              exact fin _ _ Y2.x (f1.tr f2) (Or.inr ⟨h, hc, Or.inr (Or.inr ⟨h10.1, hm⟩)⟩)
          · have hw0 : w = 0 := by unfold w32 at c_58; omega
            refine g_iload (q := 63) dX11_calmest_61 rfl rfl ?_
            refine g_ireturn dX11_calmest_63 rfl ?_
            exact fin _ _ Y.x f1 (Or.inr ⟨h, hc, Or.inl ⟨hw0, rfl⟩⟩)
    · refine g_bipush (q := 43) dX11_calmest_41 (by decide +kernel) rfl ?_
      refine g_ireturn dX11_calmest_43 rfl ?_
      rw [← hP]
      exact ⟨_, rfl, Or.inr (Or.inl ⟨hk, wb0.mp c_38, rfl⟩), X.up (by omega) hV, kF.rf⟩
  have at17 : ∀ a : Int, a = b01 (10 ≤ w ∧ w ≤ 29) → G (mkK YX11_calmest (d + 6) sh sh Po) 17 [some (.inr (.inr 0)), some (.inl tone), some (.inl w), none, none] [.inl a] sh ct := by
    intro a ha
    refine s_istore_n_5_3 (q := 18) dX11_calmest_17 rfl rfl rfl ?_
    refine g_iload_n (q := 19) dX11_calmest_18 rfl rfl ?_
    refine g_if_eq (q := 22) (tg := 34) dX11_calmest_19 (by decide) rfl (fun c_19 => ?_) (fun c_19 => ?_)
    · exact at34 a ha (Or.inl (by unfold w32 at c_19; omega))
    · have hw0 : w ≠ 0 := fun z => c_19 (by rw [z]; rfl)
      refine g_iload_n (q := 23) dX11_calmest_22 rfl rfl ?_
      refine g_iconst (q := 24) dX11_calmest_23 rfl ?_
      refine g_icmp_eq (q := 27) (tg := 34) dX11_calmest_24 (by decide) rfl (fun c_24 => ?_) (fun c_24 => ?_)
      · exact at34 a ha (Or.inr (Or.inl (by unfold w32 at c_24; omega)))
      · have hw1 : w ≠ 1 := fun z => c_24 (by rw [z])
        refine g_iload_n (q := 28) dX11_calmest_27 rfl rfl ?_
        refine g_if_ne (q := 31) (tg := 34) dX11_calmest_28 (by decide) rfl (fun c_28 => ?_) (fun c_28 => ?_)
        · refine at34 a ha (Or.inr (Or.inr ?_))
          rw [ha] at c_28
          exact wbn.mp c_28
        · refine g_bipush (q := 33) dX11_calmest_31 (by decide +kernel) rfl ?_
          refine g_ireturn dX11_calmest_33 rfl ?_
          rw [ha] at c_28
          have := wb0.mp c_28
          rw [← hP]
          exact ⟨_, rfl, Or.inl ⟨fun z => by rcases z with z | z | z; exact hw0 z; exact hw1 z; exact this z, rfl⟩, X.up (by omega) hV, kF.rf⟩
  refine Mt.of rfl (Nat.le_of_ble_eq_true rfl) ?_
  show G _ 0 [some (.inr (.inr 0)), some (.inl tone), some (.inl w), none, none] [] sh ct
  refine g_iload_n (q := 1) dX11_calmest_0 rfl rfl ?_
  refine g_bipush (q := 3) dX11_calmest_1 (by decide +kernel) rfl ?_
  refine g_icmp_lt (q := 6) (tg := 16) dX11_calmest_3 (by decide) rfl (fun c_3 => ?_) (fun c_3 => ?_)
  · refine g_iconst (q := 17) dX11_calmest_16 rfl ?_
    exact at17 0 (b01_f (by unfold w32 at c_3; omega))
  · refine g_iload_n (q := 7) dX11_calmest_6 rfl rfl ?_
    refine g_bipush (q := 9) dX11_calmest_7 (by decide +kernel) rfl ?_
    refine g_icmp_gt (q := 12) (tg := 16) dX11_calmest_9 (by decide) rfl (fun c_9 => ?_) (fun c_9 => ?_)
    · refine g_iconst (q := 17) dX11_calmest_16 rfl ?_
      exact at17 0 (b01_f (by unfold w32 at c_9; omega))
    · refine g_iconst (q := 13) dX11_calmest_12 rfl ?_
      refine g_goto (q := 17) dX11_calmest_13 (by decide) ?_
      exact at17 1 (b01_t (by unfold w32 at c_3 c_9; omega))
end
