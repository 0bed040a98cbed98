/-! Ways: the minutes of the way that was found; lengths -/
theorem upN_succ (pr : Nat → Nat) : ∀ k j, upN pr (k + 1) j = pr (upN pr k j)
  | 0, _ => rfl
  | k + 1, j => upN_succ pr k (pr j)
theorem upN_dep {pr : Nat → Nat} {n : Nat} (hp : ∀ j, 0 < j → j < n → pr j < j) {f : Nat} (hf : f < n) : ∀ t, t ≤ dep pr f → upN pr t f < n ∧ dep pr (upN pr t f) + t = dep pr f
  | 0, _ => ⟨hf, rfl⟩
  | t + 1, h => by
    obtain ⟨a, b⟩ := upN_dep hp hf t (by omega)
    have h0 : 0 < upN pr t f := by
      apply Nat.pos_of_ne_zero
      intro e
      rw [e, dep_0] at b
      omega
    have h1 := hp _ h0 a
    rw [upN_succ]
    have := dep_s h0 h1
    exact ⟨by omega, by omega⟩
theorem dep_pos {pr : Nat → Nat} {j : Nat} (h : 0 < dep pr j) : 0 < j := by
  apply Nat.pos_of_ne_zero
  intro e
  rw [e, dep_0] at h
  omega
theorem WD.mv {c c2 : mbCt} {q : Int} {N : Nat} {β : Bk} {mk : Int → Int} (h : WD c q N β mk) (e77 : c2 77 = c 77) (eq : c2 q = c q) : WD c2 q N β mk := by
  obtain ⟨n, f, h1, h2, h3, B, h5, h6⟩ := h
  have n1 : ndQ c2 q = ndQ c q := by funext j; unfold ndQ; rw [eq]
  have n2 : prQ c2 q = prQ c q := by funext j; unfold prQ; rw [eq]
  refine ⟨n, f, by rw [e77]; exact h1, h2, by rw [eq]; exact h3, ?_, ?_, ?_⟩
  · unfold U9
    rw [e77, n1, n2]
    exact B
  · rw [e77, n1]
    exact h5
  · rw [e77, n1, n2]
    exact h6
theorem WI.mv {c c2 : mbCt} {q : Int} {N : Nat} {β : Bk} {mk : Int → Int} (h : WI c q N β mk) (e77 : c2 77 = c 77) (eq : c2 q = c q) (e79 : c2 79 = c 79) (e70 : c2 70 = c 70) : WI c2 q N β mk := by
  obtain ⟨⟨w1, w2, w3, w4, w5, w6, w7, w8, w9, w10⟩, h2⟩ := h
  refine ⟨⟨by rw [e77]; exact w1, w2, w3, ?_, by rw [e77]; exact w5, by rw [e77]; exact w6, by rw [e77]; exact w7, by rw [e77]; exact w8, by rw [e77, e70]; exact w9, by rw [e77]; exact w10⟩, ?_⟩
  · intro st sp a0 a1 a2
    unfold rbit
    rw [e79]
    exact w4 st sp a0 a1 a2
  · rw [e77, e70]
    intro h
    exact (h2 h).mv e77 eq
theorem qc_far {q : Int} (h : qcN q) : q ∉ ([68, 69, 72, 73, 75, 76] : List Int) := by rcases h with rfl | h; decide; simp; omega
theorem WI.mvt {c c2 : mbCt} {q b : Int} {N : Nat} {β : Bk} {mk : Int → Int} (h : WI c q N β mk) (m : MVt c c2 b β mk) : WI c2 q N β mk := h.mv (m.1 77 (by decide)) (m.1 q (qc_far h.1.2.1)) (m.1 79 (by decide)) (m.1 70 (by decide))
theorem sc_split {β : Bk} {mk : Int → Int} {U : Nat} {cap w : Int} {x y : Int × Int} {l1 l2 pre post : List (Nat × (Int × Int))} {k1 k2 : List Nat} {v u : Nat} (hb : brL (msN β mk x.1 &&& U) 48 = k1 ++ v :: k2) (hk1 : ∀ i ∈ k1, nxB β x.1 (i / 8 : Nat) (i % 8 : Nat) ≠ y.1) (hv : nxB β x.1 (v / 8 : Nat) (v % 8 : Nat) = y.1) (he : scW β mk U cap w x = pre ++ (u, y) :: post) (hpre : ∀ q ∈ pre, q.2 ≠ y) : u = v := by
  have hmem : (u, y) ∈ scW β mk U cap w x := by rw [he]; simp
  obtain ⟨i, ib, i48, hi, hc⟩ := scW_mem hmem
  have hiu : u = i := congrArg Prod.fst hi
  have hiy : y = (scN β w x i).2 := congrArg Prod.snd hi
  have hvb : v < 48 ∧ (msN β mk x.1 &&& U).testBit v = true := brL_mem.mp (by rw [hb]; simp)
  have y1 : y.1 = nxB β x.1 (i / 8 : Nat) (i % 8 : Nat) := by rw [hiy]; rfl
  have m1 := nxB_mod (β := β) (st := x.1) (m := ((i / 8 : Nat) : Int)) (s := ((i % 8 : Nat) : Int)) (by omega) (by omega)
  have m2 := nxB_mod (β := β) (st := x.1) (m := ((v / 8 : Nat) : Int)) (s := ((v % 8 : Nat) : Int)) (by omega) (by omega)
  have hm : v / 8 = i / 8 := by
    rw [hv, y1, m1] at m2
    omega
  have hvy : (scN β w x v).2 = y := by
    rw [hiy]
    show (nxB β x.1 (v / 8 : Nat) (v % 8 : Nat), ((spN w x.2.toNat (v / 8) : Nat) : Int)) = (nxB β x.1 (i / 8 : Nat) (i % 8 : Nat), ((spN w x.2.toNat (i / 8) : Nat) : Int))
    rw [hv, y1, hm]
  have hvc : coolB cap (scN β w x v).2.1 = true := by rw [hvy]; exact hc
  have e2 : scW β mk U cap w x = ((k1.map (scN β w x)).filter (fun q => coolB cap q.2.1)) ++ (v, y) :: ((k2.map (scN β w x)).filter (fun q => coolB cap q.2.1)) := by
    unfold scW scK
    rw [hb, List.map_append, List.map_cons, List.filter_append, List.filter_cons_of_pos (p := fun q : Nat × (Int × Int) => coolB cap q.2.1) hvc]
    congr 2
    exact Prod.ext rfl hvy
  have := split_u (P := fun q : Nat × (Int × Int) => q.2 = y) (he.symm.trans e2) hpre ?_ rfl rfl
  · exact congrArg Prod.fst this.2
  · intro q hq hqy
    obtain ⟨h1, -⟩ := List.mem_filter.mp hq
    obtain ⟨i2, h3, rfl⟩ := List.mem_map.mp h1
    exact hk1 i2 h3 (congrArg Prod.fst hqy)
section
variable (d : Nat) (sh : mbSh) (ct : mbCt)
theorem c_minuteAt {q b i : Int} {β : Bk} {mk : Int → Int} {N : Nat} (S : SH sh) (MM : MV ct b β mk) (W : WI ct q N β mk) (D : WD ct q N β mk) (sq : shA sh q = some (20, N)) (i0 : -2147483648 ≤ i) (i1 : i < 2147483648) : Mt YX10_minuteAt (d + 3) [.inr (.inr 77), .inl i] sh sh ct (pI fun r c => MinOk (scW β mk (U9 ct) (ct 77 10) (ct 77 11)) (goalW β (ct 77 8) (ct 77 11)) (ct 77 7, 0) i r ∧ MVt ct c b β mk) := by
  obtain ⟨w1, w2, w3, w4, w5, w6, w7, w8, w9, w10⟩ := id W.1
  obtain ⟨n, f, h1, h2, h3, B, h5, h6⟩ := D
  have L := MM.L
  generalize hP : (pI fun r c => MinOk (scW β mk (U9 ct) (ct 77 10) (ct 77 11)) (goalW β (ct 77 8) (ct 77 11)) (ct 77 7, 0) i r ∧ MVt ct c b β mk) = Po
  have out : (¬ (0 ≤ i ∧ i < ct 77 5)) → G (mkK YX10_minuteAt (d + 3) sh sh Po) 12 [some (.inr (.inr 77)), some (.inl i), none, none, none, none] [] sh ct := by
    intro ho
    refine g_iconst (q := 13) dX10_minuteAt_12 rfl ?_
    refine g_ireturn dX10_minuteAt_13 rfl ?_
    rw [← hP]
    refine ⟨_, rfl, ?_, MM.rf⟩
    rcases h6 with ⟨a, b', e, g⟩ | ⟨a, b', e⟩
    · obtain ⟨lab, hl⟩ := B.lab
      have := B.way h5 a b' hl
      exact Or.inr ⟨_, _, this.2.1, this.2.2, this.1, Or.inr ⟨by rw [← g]; exact ho, rfl⟩⟩
    · subst a
      exact Or.inl ⟨rfl, B.none h5⟩
  refine Mt.of rfl (Nat.le_of_ble_eq_true rfl) ?_
  show G _ 0 [some (.inr (.inr 77)), some (.inl i), none, none, none, none] [] sh ct
  refine g_iload_n (q := 1) dX10_minuteAt_0 rfl rfl ?_
  refine g_if_lt (q := 4) (tg := 12) dX10_minuteAt_1 (by decide) rfl (fun c_1 => ?_) (fun c_1 => ?_)
  · exact out (by unfold w32 at c_1; omega)
  · have hlen : -1 ≤ ct 77 5 ∧ ct 77 5 ≤ 19201 := by
      rcases h6 with ⟨a, b', e, g⟩ | ⟨a, b', e⟩
      · have := dep_le (pr := prQ ct q) f
        omega
      · omega
    refine g_iload_n (q := 5) dX10_minuteAt_4 rfl rfl ?_
    refine g_aload_n (q := 6) dX10_minuteAt_5 rfl rfl ?_
    refine g_getI (q := 9) (kI := 5) fX10_23 (by first | assumption | exact S.at _ rfl) dX10_minuteAt_6 rfl rfl ?_
    refine g_icmp_lt (q := 12) (tg := 14) dX10_minuteAt_9 (by decide) rfl (fun c_9 => ?_) (fun c_9 => ?_)
    rotate_left 1
    · exact out (by unfold w32 at c_1 c_9; omega)
    · have hi : 0 ≤ i ∧ i < ct 77 5 := by unfold w32 at c_1 c_9; omega
      rcases h6.symm with ⟨a, b', e⟩ | ⟨a, b', e, g⟩
      · omega
      · have hp : ∀ j, 0 < j → j < n → prQ ct q j < j := fun j j0 j1 => (B.pl j0 j1).1
        obtain ⟨lab, hl⟩ := B.lab
        have hway := B.way h5 a b' hl
        generalize hT : dep (prQ ct q) f = T at hway g
        -- the node is found; its minute
        have find : ∀ j : Nat, j = upN (prQ ct q) (T - 1 - i.toNat) f → G (mkK YX10_minuteAt (d + 3) sh sh Po) 43 [some (.inr (.inr 77)), some (.inl i), some (.inl j), some (.inl i), none, none] [] sh ct := by
          intro j hj
          have hu := upN_dep hp a (T - 1 - i.toNat) (by omega)
          rw [← hj] at hu
          have j0 : 0 < j := dep_pos (pr := prQ ct q) (by omega)
          have j1 : j < n := hu.1
          have hpj := hp j j0 j1
          have hcj := h3 j j1
          have hcp := h3 (prQ ct q j) (by omega)
          have efr : qFr (ct q j) = ((prQ ct q j : Nat) : Int) := by
            unfold prQ qFr
            omega
          refine g_aload_n (q := 44) dX10_minuteAt_43 rfl rfl ?_
          refine g_aload_n (q := 45) dX10_minuteAt_44 rfl rfl ?_
          refine g_iload_n (q := 46) dX10_minuteAt_45 rfl rfl ?_
          refine g_callV (q := 49) lX10_105 mX10_ahead nX10_ahead rfl (c_ahead (d + 2) sh ct S w1 sq (by omega) (by omega) (by omega) hcj.1 hcj.2.1) (by first | assumption | exact S.at _ rfl) rfl rfl shLe.rf (rmOk.mk (by omega) (by first | exact shLe.rf | assumption)) (Nat.le_of_ble_eq_true rfl) dX10_minuteAt_46 rfl rfl (kI fun r c hp => ?_)
          obtain ⟨rfl, rfl⟩ := hp
          rw [efr]
          refine g_callV (q := 52) lX10_66 mX10_stateAt nX10_stateAt rfl (c_stateAt (d + 2) sh c S w1 sq (by omega) (by omega) (by omega) hcp.1 hcp.2.1) (by first | assumption | exact S.at _ rfl) rfl rfl shLe.rf (rmOk.mk (by omega) (by first | exact shLe.rf | assumption)) (Nat.le_of_ble_eq_true rfl) dX10_minuteAt_49 rfl rfl (kI fun r c2 hp => ?_)
          obtain ⟨rfl, rfl⟩ := hp
          generalize hx : ndQ c2 q (prQ c2 q j) = x
          have hx1 : qSt (c2 q (prQ c2 q j : Nat)) = x.1 := by rw [← hx]; rfl
          have x0 : 0 ≤ x.1 ∧ x.1 < 700 := by rw [← hx1]; unfold qSt; omega
          rw [hx1]
          refine s_istore_n_6_3 (q := 53) dX10_minuteAt_52 rfl rfl rfl ?_
          refine g_aload_n (q := 54) dX10_minuteAt_53 rfl rfl ?_
          refine g_getO (q := 57) (kI := 0) fX10_29 (by first | assumption | exact S.at _ rfl) dX10_minuteAt_54 rfl rfl (by first | assumption | exact L.at _ _ rfl | exact LK.at (by assumption) _ _ rfl | ((repeat first | rewrite [wr_na (by decide)] | rewrite [wr_nk (by decide)] | rewrite [wa_na (by decide)]); first | assumption | exact LK.at (by assumption) _ _ rfl) | exact rfl) ?_
          refine g_iload_n (q := 58) dX10_minuteAt_57 rfl rfl ?_
          refine g_aload_n (q := 59) dX10_minuteAt_58 rfl rfl ?_
          refine g_getO (q := 62) (kI := 0) fX10_29 (by first | assumption | exact S.at _ rfl) dX10_minuteAt_59 rfl rfl (by first | assumption | exact L.at _ _ rfl | exact LK.at (by assumption) _ _ rfl | ((repeat first | rewrite [wr_na (by decide)] | rewrite [wr_nk (by decide)] | rewrite [wa_na (by decide)]); first | assumption | exact LK.at (by assumption) _ _ rfl) | exact rfl) ?_
          refine g_iload_n (q := 63) dX10_minuteAt_62 rfl rfl ?_
          refine g_callV (q := 66) lX10_94 mX4_minutesAt nX4_minutesAt rfl (m_minutesAt d sh c2 S MM x0.1 x0.2) (by first | assumption | exact S.at _ rfl) rfl rfl shLe.rf (rmOk.mk (by omega) (by first | exact shLe.rf | assumption)) (Nat.le_of_ble_eq_true rfl) dX10_minuteAt_63 rfl rfl (kL fun r c3 hp => ?_)
          obtain ⟨rfl, m1⟩ := hp
          have L3 := m1.2.L
          have e77 : c3 77 = c2 77 := m1.1 77 (by decide)
          generalize hZ : msN β mk x.1 &&& U9 c2 = Z
          have hand : andL (msN β mk x.1) (c3 77 9) = (Z : Int) := by
            have := msN_lt β mk x.1
            rw [← hZ, e77]
            unfold andL U9
            rw [show ((msN β mk x.1 : Int) % 18446744073709551616).toNat = msN β mk x.1 by omega]
          have hZl : Z < 281474976710656 := by
            have h1 := msN_lt β mk x.1
            have h2 : Z ≤ msN β mk x.1 := by rw [← hZ]; exact Nat.and_le_left
            omega
          have hZs : ∀ k, k < 48 → Z.testBit k = true → ((k % 8 : Nat) : Int) < β.n 3 := by
            intro k _ hk
            rw [← hZ] at hk
            exact (canB_in hk).2.2
          refine g_aload_n (q := 67) dX10_minuteAt_66 rfl rfl ?_
          refine g_getJ (q := 70) (kI := 9) fX10_42 (by first | assumption | exact S.at _ rfl) dX10_minuteAt_67 rfl rfl ?_
          refine g_land (q := 71) dX10_minuteAt_70 rfl ?_
          rw [hand]
          refine g_callV (q := 74) lX10_108 mX4_branch nX4_branch rfl (m_branch (d + 1) sh c3 S m1.2 x0.1 x0.2 (by omega) hZs) (by first | assumption | exact S.at _ rfl) rfl rfl shLe.rf (rmOk.mk (by omega) (by first | exact shLe.rf | assumption)) (Nat.le_of_ble_eq_true rfl) dX10_minuteAt_71 rfl rfl (kI fun r c4 hp => ?_)
          obtain ⟨rfl, r75, r76, m2⟩ := hp
          have mt : MVt c2 c4 b β mk := m1.tr m2
          have L4 := mt.2.L
          have f77 : c4 77 = c2 77 := mt.1 77 (by decide)
          have fq : c4 q = c2 q := mt.1 q (qc_far w2)
          have hln := brL_len Z 48
          have s75 : shA sh 75 = some (20, 48) := S.at _ rfl
          have s76 : shA sh 76 = some (20, 48) := S.at _ rfl
          generalize hy : ndQ c2 q j = y
          have hy1 : qSt (c2 q j) = y.1 := by rw [← hy]; rfl
          have hy0 : 0 ≤ y.1 ∧ y.1 < 700 := by rw [← hy1]; unfold qSt; omega
          have loop : ∀ (k i2 : Nat), i2 + k = (brL Z 48).length → (∀ (t : Nat) (ht : t < (brL Z 48).length), t < i2 → nxB β x.1 ((brL Z 48)[t] / 8 : Nat) ((brL Z 48)[t] % 8 : Nat) ≠ y.1) → G (mkK YX10_minuteAt (d + 3) sh sh Po) 79 [some (.inr (.inr 77)), some (.inl i), some (.inl j), some (.inl x.1), some (.inl ((brL Z 48).length : Nat)), some (.inl i2)] [] sh c4 := by
            intro k
            induction k with
            | zero =>
              intro i2 hi2 hno
              exfalso
              obtain ⟨p, hp1, hp2⟩ := (B.pl j0 j1).2.2
              rw [hx, hy] at *
              obtain ⟨v, vb, v48, hv, -⟩ := scW_mem hp1
              rw [hZ] at vb
              obtain ⟨t, ht, et⟩ := List.getElem_of_mem (brL_mem.mpr ⟨v48, vb⟩)
              refine hno t ht (by omega) ?_
              rw [et, ← hp2, hv]
              rfl
            | succ k ih =>
              intro i2 hi2 hno
              have ht : i2 < (brL Z 48).length := by omega
              have v76 : c4 76 i2 = nxB β x.1 ((brL Z 48)[i2] / 8 : Nat) ((brL Z 48)[i2] % 8 : Nat) := r76 i2 ht
              have v75 := r75 i2 ht
              have hmm := brL_mem.mp (List.getElem_mem ht)
              have hnx := nxB_in (β := β) (st := x.1) (m := (((brL Z 48)[i2] / 8 : Nat) : Int)) (s := (((brL Z 48)[i2] % 8 : Nat) : Int)) (by omega) (by omega)
              refine g_iload (q := 81) dX10_minuteAt_79 rfl rfl ?_
              refine g_iload (q := 83) dX10_minuteAt_81 rfl rfl ?_
              refine g_icmp_ge (q := 86) (tg := 121) dX10_minuteAt_83 (by decide) rfl (fun c_83 => ?_) (fun c_83 => ?_)
              · exact absurd c_83 (by unfold w32; omega)
              · refine g_aload_n (q := 87) dX10_minuteAt_86 rfl rfl ?_
                refine g_getO (q := 90) (kI := 0) fX10_29 (by first | assumption | exact S.at _ rfl) dX10_minuteAt_87 rfl rfl (by first | assumption | exact L.at _ _ rfl | exact LK.at (by assumption) _ _ rfl | ((repeat first | rewrite [wr_na (by decide)] | rewrite [wr_nk (by decide)] | rewrite [wa_na (by decide)]); first | assumption | exact LK.at (by assumption) _ _ rfl) | exact rfl) ?_
                refine g_getA (q := 93) (kI := 9) fX10_112 (by first | assumption | exact S.at _ rfl) dX10_minuteAt_90 rfl rfl (by first | assumption | exact L.at _ _ rfl | exact LK.at (by assumption) _ _ rfl | ((repeat first | rewrite [wr_na (by decide)] | rewrite [wr_nk (by decide)] | rewrite [wa_na (by decide)]); first | assumption | exact LK.at (by assumption) _ _ rfl) | exact rfl) ?_
                refine g_iload (q := 95) dX10_minuteAt_93 rfl rfl ?_
                refine g_iaload (q := 96) (by first | assumption | exact S.at _ rfl) (by omega) (by omega) (by omega) dX10_minuteAt_95 rfl ?_
                rw [v76]
                refine g_aload_n (q := 97) dX10_minuteAt_96 rfl rfl ?_
                refine g_iload_n (q := 98) dX10_minuteAt_97 rfl rfl ?_
                refine g_callV (q := 101) lX10_66 mX10_stateAt nX10_stateAt rfl (c_stateAt (d + 2) sh c4 S (by rw [f77]; exact w1) sq (by omega) (by omega) (by omega) (by rw [fq]; exact hcj.1) (by rw [fq]; exact hcj.2.1)) (by first | assumption | exact S.at _ rfl) rfl rfl shLe.rf (rmOk.mk (by omega) (by first | exact shLe.rf | assumption)) (Nat.le_of_ble_eq_true rfl) dX10_minuteAt_98 rfl rfl (kI fun r c5 hp => ?_)
                obtain ⟨rfl, rfl⟩ := hp
                rw [fq, hy1]
                refine g_icmp_ne (q := 104) (tg := 115) dX10_minuteAt_101 (by decide) rfl (fun c_101 => ?_) (fun c_101 => ?_)
                · refine s_iinc_6_5 (q := 118) dX10_minuteAt_115 rfl rfl rfl ?_
                  refine g_goto (q := 79) dX10_minuteAt_118 (by decide) ?_
                  have := ih (i2 + 1) (by omega) ?_
                  · rw [Int.natCast_succ] at this
                    exact this
                  · intro t ht2 ht3
                    by_cases e : t = i2
                    · subst e
                      intro h
                      exact c_101 (by rw [h])
                    · exact hno t ht2 (by omega)
                · have hfound : nxB β x.1 ((brL Z 48)[i2] / 8 : Nat) ((brL Z 48)[i2] % 8 : Nat) = y.1 := by
                    generalize nxB β x.1 ((brL Z 48)[i2] / 8 : Nat) ((brL Z 48)[i2] % 8 : Nat) = z at hnx c_101
                    unfold w32 at c_101
                    omega
                  refine g_aload_n (q := 105) dX10_minuteAt_104 rfl rfl ?_
                  refine g_getO (q := 108) (kI := 0) fX10_29 (by first | assumption | exact S.at _ rfl) dX10_minuteAt_105 rfl rfl (by first | assumption | exact L.at _ _ rfl | exact LK.at (by assumption) _ _ rfl | ((repeat first | rewrite [wr_na (by decide)] | rewrite [wr_nk (by decide)] | rewrite [wa_na (by decide)]); first | assumption | exact LK.at (by assumption) _ _ rfl) | exact rfl) ?_
                  refine g_getA (q := 111) (kI := 8) fX10_115 (by first | assumption | exact S.at _ rfl) dX10_minuteAt_108 rfl rfl (by first | assumption | exact L.at _ _ rfl | exact LK.at (by assumption) _ _ rfl | ((repeat first | rewrite [wr_na (by decide)] | rewrite [wr_nk (by decide)] | rewrite [wa_na (by decide)]); first | assumption | exact LK.at (by assumption) _ _ rfl) | exact rfl) ?_
                  refine g_iload (q := 113) dX10_minuteAt_111 rfl rfl ?_
                  refine g_iaload (q := 114) (by first | assumption | exact S.at _ rfl) (by omega) (by omega) (by omega) dX10_minuteAt_113 rfl ?_
                  rw [v75]
                  refine g_ireturn dX10_minuteAt_114 rfl ?_
                  rw [← hP]
                  refine ⟨_, rfl, ?_, mt⟩
                  refine Or.inr ⟨T, _, hway.2.1, hway.2.2, hway.1, Or.inl ⟨hi.1, by omega, ?_⟩⟩
                  obtain ⟨pre, post, he, hpre⟩ := hl j j0 j1
                  rw [hx, hy] at he
                  rw [hy] at hpre
                  have hlb : lab j = (brL Z 48)[i2] := by
                    refine sc_split (l1 := []) (l2 := []) (k1 := (brL Z 48).take i2) (k2 := (brL Z 48).drop (i2 + 1)) ?_ ?_ hfound he hpre
                    · rw [hZ, List.getElem_cons_drop, List.take_append_drop]
                    · intro v hv
                      obtain ⟨t, ht1, rfl⟩ := List.getElem_of_mem hv
                      rw [List.length_take] at ht1
                      rw [List.getElem_take]
                      exact hno t (by omega) (by omega)
                  have hpt := (pth_at (lab := lab) hp f a).2 i.toNat (by omega)
                  rw [hT, ← hj, hlb] at hpt
                  rw [List.getD_eq_getElem?_getD, hpt]
                  rfl
          refine s_istore_6_4 (q := 76) dX10_minuteAt_74 rfl rfl rfl ?_
          refine g_iconst (q := 77) dX10_minuteAt_76 rfl ?_
          refine s_istore_6_5 (q := 79) dX10_minuteAt_77 rfl rfl rfl ?_
          exact loop (brL Z 48).length 0 (by omega) (fun t _ ht => by omega)
        have back : ∀ (k t : Nat), t + k = T - 1 - i.toNat → G (mkK YX10_minuteAt (d + 3) sh sh Po) 26 [some (.inr (.inr 77)), some (.inl i), some (.inl (upN (prQ ct q) t f : Nat)), some (.inl (T - 1 - t : Int)), none, none] [] sh ct := by
          intro k
          induction k with
          | zero =>
            intro t ht
            refine g_iload_n (q := 27) dX10_minuteAt_26 rfl rfl ?_
            refine g_iload_n (q := 28) dX10_minuteAt_27 rfl rfl ?_
            refine g_icmp_le (q := 31) (tg := 43) dX10_minuteAt_28 (by decide) rfl (fun c_28 => ?_) (fun c_28 => ?_)
            · have := find (upN (prQ ct q) t f) (by rw [show t = T - 1 - i.toNat by omega])
              rw [show (T : Int) - 1 - t = i by omega]
              exact this
            · exact absurd c_28 (by unfold w32; omega)
          | succ k ih =>
            intro t ht
            have hu := upN_dep hp a t (by omega)
            have hcj := h3 (upN (prQ ct q) t f) hu.1
            refine g_iload_n (q := 27) dX10_minuteAt_26 rfl rfl ?_
            refine g_iload_n (q := 28) dX10_minuteAt_27 rfl rfl ?_
            refine g_icmp_le (q := 31) (tg := 43) dX10_minuteAt_28 (by decide) rfl (fun c_28 => ?_) (fun c_28 => ?_)
            · exact absurd c_28 (by unfold w32; omega)
            · refine g_aload_n (q := 32) dX10_minuteAt_31 rfl rfl ?_
              refine g_iload_n (q := 33) dX10_minuteAt_32 rfl rfl ?_
              refine g_callV (q := 36) lX10_105 mX10_ahead nX10_ahead rfl (c_ahead (d + 2) sh ct S w1 sq (by omega) (by omega) (by omega) hcj.1 hcj.2.1) (by first | assumption | exact S.at _ rfl) rfl rfl shLe.rf (rmOk.mk (by omega) (by first | exact shLe.rf | assumption)) (Nat.le_of_ble_eq_true rfl) dX10_minuteAt_33 rfl rfl (kI fun r c hp => ?_)
              obtain ⟨rfl, rfl⟩ := hp
              have efr : qFr (c q (upN (prQ c q) t f : Nat)) = ((upN (prQ c q) (t + 1) f : Nat) : Int) := by
                rw [upN_succ]
                generalize upN (prQ c q) t f = z at hcj
                unfold prQ qFr
                omega
              rw [efr]
              refine s_istore_n_6_2 (q := 37) dX10_minuteAt_36 rfl rfl rfl ?_
              refine s_iinc_6_3 (q := 40) dX10_minuteAt_37 rfl rfl rfl ?_
              refine g_goto (q := 26) dX10_minuteAt_40 (by decide) ?_
              have := ih (t + 1) (by omega)
              rw [show (T : Int) - 1 - ((t + 1 : Nat) : Int) = T - 1 - t + -1 by omega] at this
              exact this
        refine g_aload_n (q := 15) dX10_minuteAt_14 rfl rfl ?_
        refine g_getI (q := 18) (kI := 4) fX10_19 (by first | assumption | exact S.at _ rfl) dX10_minuteAt_15 rfl rfl ?_
        rw [e]
        refine s_istore_n_6_2 (q := 19) dX10_minuteAt_18 rfl rfl rfl ?_
        refine g_aload_n (q := 20) dX10_minuteAt_19 rfl rfl ?_
        refine g_getI (q := 23) (kI := 5) fX10_23 (by first | assumption | exact S.at _ rfl) dX10_minuteAt_20 rfl rfl ?_
        rw [g]
        refine g_iconst (q := 24) dX10_minuteAt_23 rfl ?_
        refine g_isub (q := 25) dX10_minuteAt_24 rfl ?_
        refine s_istore_n_6_3 (q := 26) dX10_minuteAt_25 rfl rfl rfl ?_
        have := back (T - 1 - i.toNat) 0 (by omega)
        simpa [upN] using this
/-- a search that came everywhere -/
def WA (c : mbCt) (q : Int) (N n : Nat) (β : Bk) (mk : Int → Int) (from' : Int) : Prop := c 77 2 = n ∧ n ≤ N ∧ (∀ j : Nat, j < n → 0 ≤ c q j ∧ c q j < 2147483648 ∧ c q j % 1024 < 700) ∧ BF (scW β mk 281474976710655 9 0) (from', 0) (ndQ c q) (prQ c q) n n [] ∧ ∀ j, j < n → (ndQ c q j).2 = 0
theorem sp_0 {β : Bk} {mk : Int → Int} {U : Nat} {cap : Int} {x : Int × Int} {p : Nat × (Int × Int)} (h : p ∈ scW β mk U cap 0 x) : p.2.2 = 0 := by
  obtain ⟨i, -, -, rfl, -⟩ := scW_mem h
  rfl
theorem WD.all {c : mbCt} {q : Int} {N : Nat} {β : Bk} {mk : Int → Int} {from' : Int} (h : WD c q N β mk) (h7 : c 77 7 = from') (h8 : c 77 8 = 10) (h9 : U9 c = 281474976710655) (h10 : c 77 10 = 9) (h11 : c 77 11 = 0) : ∃ n, WA c q N n β mk from' := by
  obtain ⟨n, f, h1, h2, h3, B, h5, h6⟩ := h
  rw [h7, h9, h10, h11] at B
  rcases h6 with ⟨a, ⟨-, b⟩, -⟩ | ⟨a, -⟩
  · exfalso
    unfold enB at b
    rw [h8] at b
    have := h3 f a
    have e : (ndQ c q f).1 = c q f % 1024 := rfl
    rw [e] at b
    simp at b
    omega
  · subst a
    refine ⟨f, h1, h2, h3, B, ?_⟩
    intro j hj
    by_cases j0 : 0 < j
    · obtain ⟨p, hp, hp2⟩ := (B.pl j0 hj).2.2
      rw [← hp2]
      exact sp_0 hp
    · rw [show j = 0 by omega, B.1.2]
theorem WA.mv {c c2 : mbCt} {q : Int} {N n : Nat} {β : Bk} {mk : Int → Int} {from' : Int} (h : WA c q N n β mk from') (e77 : c2 77 = c 77) (eq : c2 q = c q) : WA c2 q N n β mk from' := by
  obtain ⟨h1, h2, h3, B, h5⟩ := h
  have n1 : ndQ c2 q = ndQ c q := by funext j; unfold ndQ; rw [eq]
  have n2 : prQ c2 q = prQ c q := by funext j; unfold prQ; rw [eq]
  exact ⟨by rw [e77]; exact h1, h2, by rw [eq]; exact h3, by rw [n1, n2]; exact B, by rw [n1]; exact h5⟩
theorem c_firstLength {q b tone from' : Int} {β : Bk} {mk : Int → Int} {N n : Nat} (S : SH sh) (MM : MV ct b β mk) (W : WI ct q N β mk) (D : WA ct q N n β mk from') (sq : shA sh q = some (20, N)) (t0 : -1 ≤ tone) (t1 : tone ≤ 10) : Mt YX10_firstLength (d + 4) [.inr (.inr 77), .inl tone] sh sh ct (pI fun r c => WayOk (scW β mk 281474976710655 9 0) (goalW β tone 0) (from', 0) r ∧ MVt ct c b β mk) := by
  obtain ⟨w1, w2, w3, w4, w5, w6, w7, w8, w9, w10⟩ := id W.1
  obtain ⟨h1, h2, h3, B, h5⟩ := D
  generalize hP : (pI fun r c => WayOk (scW β mk 281474976710655 9 0) (goalW β tone 0) (from', 0) r ∧ MVt ct c b β mk) = Po
  have loop : ∀ (k i : Nat) (c : mbCt), i + k = n → MVt ct c b β mk → (∀ j, j < i → ¬ goalW β tone 0 (ndQ ct q j)) → G (mkK YX10_firstLength (d + 4) sh sh Po) 2 [some (.inr (.inr 77)), some (.inl tone), some (.inl i)] [] sh c := by
    intro k
    induction k with
    | zero =>
      intro i c hi hm hno
      have e77 : c 77 = ct 77 := hm.1 77 (by decide)
      refine g_iload_n (q := 3) dX10_firstLength_2 rfl rfl ?_
      refine g_aload_n (q := 4) dX10_firstLength_3 rfl rfl ?_
      refine g_getI (q := 7) (kI := 2) fX10_55 (by first | assumption | exact S.at _ rfl) dX10_firstLength_4 rfl rfl ?_
      rw [e77, h1]
      refine g_icmp_ge (q := 10) (tg := 38) dX10_firstLength_7 (by decide) rfl (fun c_7 => ?_) (fun c_7 => ?_)
      · refine g_iconst (q := 39) dX10_firstLength_38 rfl ?_
        refine g_ireturn dX10_firstLength_39 rfl ?_
        rw [← hP]
        refine ⟨_, rfl, Or.inl ⟨rfl, ?_⟩, hm⟩
        have : i = n := by omega
        subst this
        exact B.none hno
      · exact absurd c_7 (by unfold w32; omega)
    | succ k ih =>
      intro i c hi hm hno
      have e77 : c 77 = ct 77 := hm.1 77 (by decide)
      have eq : c q = ct q := hm.1 q (qc_far w2)
      have hci := h3 i (by omega)
      have Lc := hm.2.L
      have hs : 0 ≤ qSt (ct q i) ∧ qSt (ct q i) < 700 := by unfold qSt; omega
      refine g_iload_n (q := 3) dX10_firstLength_2 rfl rfl ?_
      refine g_aload_n (q := 4) dX10_firstLength_3 rfl rfl ?_
      refine g_getI (q := 7) (kI := 2) fX10_55 (by first | assumption | exact S.at _ rfl) dX10_firstLength_4 rfl rfl ?_
      rw [e77, h1]
      refine g_icmp_ge (q := 10) (tg := 38) dX10_firstLength_7 (by decide) rfl (fun c_7 => ?_) (fun c_7 => ?_)
      · exact absurd c_7 (by unfold w32; omega)
      · refine g_aload_n (q := 11) dX10_firstLength_10 rfl rfl ?_
        refine g_getO (q := 14) (kI := 0) fX10_29 (by first | assumption | exact S.at _ rfl) dX10_firstLength_11 rfl rfl (by first | assumption | exact L.at _ _ rfl | exact LK.at (by assumption) _ _ rfl | ((repeat first | rewrite [wr_na (by decide)] | rewrite [wr_nk (by decide)] | rewrite [wa_na (by decide)]); first | assumption | exact LK.at (by assumption) _ _ rfl) | exact rfl) ?_
        refine g_aload_n (q := 15) dX10_firstLength_14 rfl rfl ?_
        refine g_iload_n (q := 16) dX10_firstLength_15 rfl rfl ?_
        refine g_callV (q := 19) lX10_66 mX10_stateAt nX10_stateAt rfl (c_stateAt (d + 3) sh c S (by rw [e77]; exact w1) sq (by omega) (by omega) (by omega) (by rw [eq]; exact hci.1) (by rw [eq]; exact hci.2.1)) (by first | assumption | exact S.at _ rfl) rfl rfl shLe.rf (rmOk.mk (by omega) (by first | exact shLe.rf | assumption)) (Nat.le_of_ble_eq_true rfl) dX10_firstLength_16 rfl rfl (kI fun r c2 hp => ?_)
        obtain ⟨rfl, rfl⟩ := hp
        rw [eq]
        refine g_iload_n (q := 20) dX10_firstLength_19 rfl rfl ?_
        refine g_callV (q := 23) lX10_69 mX4_isEnd nX4_isEnd rfl (m_isEnd d sh c2 S hm.2 hs.1 hs.2 t0 t1) (by first | assumption | exact S.at _ rfl) rfl rfl shLe.rf (rmOk.mk (by omega) (by first | exact shLe.rf | assumption)) (Nat.le_of_ble_eq_true rfl) dX10_firstLength_20 rfl rfl (kI fun r c3 hp => ?_)
        obtain ⟨rfl, m1⟩ := hp
        have mt := hm.tr m1
        have f77 : c3 77 = ct 77 := mt.1 77 (by decide)
        have fq : c3 q = ct q := mt.1 q (qc_far w2)
        have L3 := mt.2.L
        refine g_if_eq (q := 26) (tg := 32) dX10_firstLength_23 (by decide) rfl (fun c_23 => ?_) (fun c_23 => ?_)
        · refine s_iinc_3_2 (q := 35) dX10_firstLength_32 rfl rfl rfl ?_
          refine g_goto (q := 2) dX10_firstLength_35 (by decide) ?_
          have := ih (i + 1) c3 (by omega) mt ?_
          · rw [Int.natCast_succ] at this
            exact this
          · intro j hj
            by_cases e : j = i
            · subst e
              intro hg
              have h3 : enB β (qSt (ct q j)) tone = true := hg.2
              rw [← b01_t h3] at c_23
              exact absurd c_23 (by decide)
            · exact hno j (by omega)
        · have hg : enB β (qSt (ct q i)) tone = true := by
            by_cases h : enB β (qSt (ct q i)) tone = true
            · exact h
            · rw [← b01_f h] at c_23
              exact absurd rfl c_23
          have n2 : prQ c3 q = prQ ct q := by funext j; unfold prQ; rw [fq]
          refine g_aload_n (q := 27) dX10_firstLength_26 rfl rfl ?_
          refine g_iload_n (q := 28) dX10_firstLength_27 rfl rfl ?_
          refine g_callV (q := 31) lX10_77 mX10_lengthTo nX10_lengthTo rfl (c_lengthTo (d + 2) sh c3 S L3 (by rw [f77]; exact w1) sq w3.2 (by rw [f77]; exact h1) h2 (by rw [fq]; exact fun j hj => ⟨(h3 j hj).1, (h3 j hj).2.1⟩) (fun j j0 j1 => by rw [n2]; exact (B.pl j0 j1).1) (show i < n by omega)) (by first | assumption | exact S.at _ rfl) rfl rfl shLe.rf (rmOk.mk (by omega) (by first | exact shLe.rf | assumption)) (Nat.le_of_ble_eq_true rfl) dX10_firstLength_28 rfl rfl (kI fun r c4 hp => ?_)
          obtain ⟨rfl, rfl⟩ := hp
          rw [n2]
          refine g_ireturn dX10_firstLength_31 rfl ?_
          rw [← hP]
          have hgo : goalW β tone 0 (ndQ ct q i) := ⟨h5 i (by omega), hg⟩
          refine ⟨_, rfl, Or.inr ⟨_, rfl, ?_, ?_⟩, mt⟩
          · have := B.up (goal := goalW β tone 0) i (by omega) 0 hgo
            rw [Nat.zero_add] at this
            exact this
          · intro m hm2 hr
            have := B.walk (f := i) (by omega) hno (by omega) m 0 B.1.1 (by rw [B.1.2]; exact hr)
            rw [dep_0] at this
            omega
  refine Mt.of rfl (Nat.le_of_ble_eq_true rfl) ?_
  show G _ 0 [some (.inr (.inr 77)), some (.inl tone), none] [] sh ct
  refine g_iconst (q := 1) dX10_firstLength_0 rfl ?_
  refine s_istore_n_3_2 (q := 2) dX10_firstLength_1 rfl rfl rfl ?_
  exact loop n 0 ct (by omega) MM.rf (fun j hj => by omega)
end
