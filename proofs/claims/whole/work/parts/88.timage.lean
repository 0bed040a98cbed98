/-! the reference: lists, images, counts -/
theorem mF.r {ct c : mbCt} (h : mF ct c) (hA : ∀ x ∈ ([104, 105, 106, 107, 108, 109, 110] : List Int), c x = ct x) : rF ct c := by
  refine ⟨fun x hx => ?_, h.2⟩
  by_cases hm : x ∈ ([104, 105, 106, 107, 108, 109, 110] : List Int)
  · exact hA x hm
  · apply h.1
    unfold RF
    simp at hx hm ⊢
    omega
section
variable (d : Nat) (sh : mbSh) (ct : mbCt) {β : Bk} {s : Sit} {n : Int} {pl : Int → Sit} {sz bt : Int → Int} {vl : Int → Int → Int}
theorem tw_shortestR {tone : Int} {mk : Int → Int} {st : Int} (S : SH sh) (M : MD ct β mk st) (t0 : -1 ≤ tone) (t1 : tone ≤ 10) : Mt YX12_shortestNow (d + 6) [.inr (.inr 92), .inl tone] sh sh ct (pI fun r c => LM c β mk (useN (-1) (-1)) 9 tone 0 st r ∧ eqBut [97, 98, 100, 101, 102, 103] ct c) := by
  refine Mt.of rfl (Nat.le_of_ble_eq_true rfl) ?_
  show G _ 0 [some (.inr (.inr 92)), some (.inl tone)] [] sh ct
  refine g_aload_n (q := 1) dX12_shortestNow_0 rfl rfl ?_
  refine g_callV (q := 4) lX12_351 mX12_laysPlain nX12_laysPlain rfl (tw_laysPlain d sh _ S M) (by first | assumption | exact S.at _ rfl) rfl rfl shLe.rf (rmOk.mk (by omega) (by first | exact shLe.rf | assumption)) (Nat.le_of_ble_eq_true rfl) dX12_shortestNow_1 rfl rfl (kN fun s_1 hp => ?_)
  obtain ⟨D, e1⟩ := hp
  have M1 := M.mf (mF.of e1 rfl)
  refine g_aload_n (q := 5) dX12_shortestNow_4 rfl rfl ?_
  refine g_iload_n (q := 6) dX12_shortestNow_5 rfl rfl ?_
  refine g_iconst (q := 7) dX12_shortestNow_6 rfl ?_
  refine g_callV (q := 10) lX12_354 mX12_laysMinutes nX12_laysMinutes rfl (tw_laysMinutes (d + 2) sh _ S M1 D (useN_ok _ _) (by omega) fulM_0 t0 t1) (by first | assumption | exact S.at _ rfl) rfl rfl shLe.rf (rmOk.mk (by omega) (by first | exact shLe.rf | assumption)) (Nat.le_of_ble_eq_true rfl) dX12_shortestNow_7 rfl rfl (kI fun r_7 s_7 hp => ?_)
  obtain ⟨hL, e2⟩ := hp
  refine g_ireturn dX12_shortestNow_10 rfl ?_
  exact ⟨_, rfl, hL, (e1.mono (by decide)).tr (e2.mono (by decide))⟩
set_option maxRecDepth 4000 in
theorem tw_lists {t tone : Int} (S : SH sh) (M : MA ct β s) (T : MT ct sz bt vl) (ht : i32 t) (hto : i32 tone) : Mt YX12_lists (d + 7) [.inr (.inr 92), .inl t, .inl tone] sh sh ct (pI fun r c => ((¬ isTr t ∧ r = -2 ∧ MT c sz bt vl) ∨ (isTr t ∧ sz t = -1 ∧ r = -6 ∧ MT c sz bt vl) ∨ (isTr t ∧ sz t ≠ -1 ∧ ¬ isTn tone ∧ r = -3 ∧ MT c sz bt vl) ∨ (isTr t ∧ sz t ≠ -1 ∧ isTn tone ∧ ∃ m, wyS β s.2.2 s.1 (-1) (-1) 9 tone 0 m ∧ ((m = -1 ∧ r = -5 ∧ MT c sz bt vl) ∨ (m ≠ -1 ∧ r = (if m < sz t then m else sz t) ∧ ∀ f : Int → Int, (∀ k, 0 ≤ k → k < r → miS β s.2.2 s.1 (-1) (-1) 9 tone 0 k (f k)) → MT c sz bt (upR vl t (fun i => if i < r then f i else vl t i)))))) ∧ rF ct c) := by
  have s111 : shA sh 111 = some (20, 4) := S.at _ rfl
  have s112 : shA sh 112 = some (20, 4) := S.at _ rfl
  have s113 : shA sh 113 = some (21, 160) := S.at _ rfl
  have s102 : shA sh 102 = some (20, 44800) := S.at _ rfl
  have T0 : MT (wr ct 92 0 0) sz bt vl := T.eq (wr_other _ _ _ _ _ (by decide)) (wr_other _ _ _ _ _ (by decide)) (wr_other _ _ _ _ _ (by decide))
  have M0 := M.mf (mF.th (v := 0))
  have f0 : rF ct (wr ct 92 0 0) := rF.th
  generalize hP : (pI fun r c => ((¬ isTr t ∧ r = -2 ∧ MT c sz bt vl) ∨ (isTr t ∧ sz t = -1 ∧ r = -6 ∧ MT c sz bt vl) ∨ (isTr t ∧ sz t ≠ -1 ∧ ¬ isTn tone ∧ r = -3 ∧ MT c sz bt vl) ∨ (isTr t ∧ sz t ≠ -1 ∧ isTn tone ∧ ∃ m, wyS β s.2.2 s.1 (-1) (-1) 9 tone 0 m ∧ ((m = -1 ∧ r = -5 ∧ MT c sz bt vl) ∨ (m ≠ -1 ∧ r = (if m < sz t then m else sz t) ∧ ∀ f : Int → Int, (∀ k, 0 ≤ k → k < r → miS β s.2.2 s.1 (-1) (-1) 9 tone 0 k (f k)) → MT c sz bt (upR vl t (fun i => if i < r then f i else vl t i)))))) ∧ rF ct c) = Po
  refine Mt.of rfl (Nat.le_of_ble_eq_true rfl) ?_
  show G _ 0 [some (.inr (.inr 92)), some (.inl t), some (.inl tone), none, none, none, none] [] sh ct
  refine g_aload_n (q := 1) dX12_lists_0 rfl rfl ?_
  refine g_iconst (q := 2) dX12_lists_1 rfl ?_
  refine g_putI (q := 5) (kI := 0) fX12_1 (by first | assumption | exact S.at _ rfl) dX12_lists_2 rfl rfl ?_
  refine g_aload_n (q := 6) dX12_lists_5 rfl rfl ?_
  refine g_iload_n (q := 7) dX12_lists_6 rfl rfl ?_
  generalize hc0 : wr ct 92 0 0 = c0 at *
  refine g_callV (q := 10) lX12_309 mX12_noTray nX12_noTray rfl (tw_noTray (d + 5) sh _ S M0.1 T0 ht) (by first | assumption | exact S.at _ rfl) rfl rfl shLe.rf (rmOk.mk (by omega) (by first | exact shLe.rf | assumption)) (Nat.le_of_ble_eq_true rfl) dX12_lists_7 rfl rfl (kI fun r_ c_ hp => ?_)
  obtain ⟨hr, hq⟩ := hp
  replace hr := hr.symm
  replace hq := hq.symm
  subst hr hq
  by_cases htr : isTr t
  · rw [if_pos htr]
    have h14a := htr
    unfold isTr at h14a
    by_cases hz : sz t = -1
    · rw [if_pos hz]
      refine s_istore_n_7_3 (q := 11) dX12_lists_10 rfl rfl rfl ?_
      refine g_iload_n (q := 12) dX12_lists_11 rfl rfl ?_
      refine g_if_eq (q := 15) (tg := 17) dX12_lists_12 (by decide) rfl (fun c_12 => ?_) (fun c_12 => ?_)
      · exact absurd c_12 (by decide)
      · refine g_iload_n (q := 16) dX12_lists_15 rfl rfl ?_
        refine g_ireturn dX12_lists_16 rfl ?_
        rw [← hP]
        exact ⟨_, rfl, Or.inr (Or.inl ⟨htr, hz, rfl, T0⟩), f0⟩
    · rw [if_neg hz]
      obtain ⟨g1, g2, g3, g4⟩ := (T0 t htr.1 htr.2).resolve_left (fun z => hz z.1)
      refine s_istore_n_7_3 (q := 11) dX12_lists_10 rfl rfl rfl ?_
      refine g_iload_n (q := 12) dX12_lists_11 rfl rfl ?_
      refine g_if_eq (q := 15) (tg := 17) dX12_lists_12 (by decide) rfl (fun c_12 => ?_) (fun c_12 => ?_)
      · refine g_iload_n (q := 18) dX12_lists_17 rfl rfl ?_
        refine g_callS (q := 21) lX12_358 mX12_isTone sX12_isTone rfl (tw_isTone (d + 5) sh _ hto) shLe.rf (rmOk.mk (by omega) (by first | exact shLe.rf | assumption)) (Nat.le_of_ble_eq_true rfl) dX12_lists_18 rfl rfl (kI fun r_ c_ hp => ?_)
        obtain ⟨hr, hq⟩ := hp
        replace hr := hr.symm
        replace hq := hq.symm
        subst hr hq
        refine g_if_ne (q := 24) (tg := 27) dX12_lists_21 (by decide) rfl (fun c_21 => ?_) (fun c_21 => ?_)
        · have htn := wbn.mp c_21
          refine g_aload_n (q := 28) dX12_lists_27 rfl rfl ?_
          refine g_iload_n (q := 29) dX12_lists_28 rfl rfl ?_
          refine g_callV (q := 32) lX12_361 mX12_shortestNow nX12_shortestNow rfl (tw_shortestR d sh _ S M0.md htn.1 (by have := htn.2; omega)) (by first | assumption | exact S.at _ rfl) rfl rfl shLe.rf (rmOk.mk (by omega) (by first | exact shLe.rf | assumption)) (Nat.le_of_ble_eq_true rfl) dX12_lists_29 rfl rfl (kI fun m c1 hp => ?_)
          obtain ⟨hL, e1⟩ := hp
          have hwy := hL.way (useN_ok _ _)
          have hge := hwy.1.ge
          have L1 : LK c1 := M0.1.eb e1 rfl
          have f1 : rF ct c1 := f0.tr ⟨e1.mono (by decide), fun k _ => by rw [e1 92 (by decide)]⟩
          have T1 : MT c1 sz bt vl := T0.eq (e1 111 (by decide)) (e1 112 (by decide)) (e1 113 (by decide))
          have h112 : c1 112 t = sz t := by rw [e1 112 (by decide)]; exact g2
          refine s_istore_7_4 (q := 34) dX12_lists_32 rfl rfl rfl ?_
          refine g_iload (q := 36) dX12_lists_34 rfl rfl ?_
          refine g_iconst (q := 37) dX12_lists_36 rfl ?_
          refine g_icmp_ne (q := 40) (tg := 43) dX12_lists_37 (by decide) rfl (fun c_37 => ?_) (fun c_37 => ?_)
          · have hm1 : m ≠ -1 := fun z => c_37 (by rw [z])
            have tail : ∀ N, N = (if m < sz t then m else sz t) → G (mkK YX12_lists (d + 7) sh sh Po) 65 [some (.inr (.inr 92)), some (.inl t), some (.inl tone), some (.inl 0), some (.inl m), none, none] [.inl N] sh c1 := by
              intro N hN
              have hNb : 0 ≤ N ∧ N ≤ m ∧ N ≤ sz t := by
                rw [hN]
                split <;> omega
              refine s_istore_7_5 (q := 67) dX12_lists_65 rfl rfl rfl ?_
              refine g_iconst (q := 68) dX12_lists_67 rfl ?_
              refine s_istore_7_6 (q := 70) dX12_lists_68 rfl rfl rfl ?_
              refine g_for (fun k => [some (.inr (.inr 92)), some (.inl t), some (.inl tone), some (.inl 0), some (.inl m), some (.inl N), some (.inl k)]) (fun k c => 0 ≤ k ∧ eqBut [113] c1 c ∧ (∀ j, (j < 40 * t ∨ 40 * t + k ≤ j) → c 113 j = c1 113 j) ∧ ∀ j, 0 ≤ j → j < k → c 113 (40 * t + j) = w32 (c1 102 j)) N ?_ ?_ (i := 0) (by omega) ⟨by omega, eqBut.rf, fun _ _ => rfl, fun j _ _ => by omega⟩ (by simp [lsSub])
              · rintro k c hk ⟨k0, e, i1, i2⟩ kk
                have Lc : LK c := L1.eb e rfl
                have h102 : c 102 = c1 102 := e 102 (by decide)
                refine g_iload (q := 72) dX12_lists_70 rfl rfl ?_
                refine g_iload (q := 74) dX12_lists_72 rfl rfl ?_
                refine g_icmp_ge (q := 77) (tg := 103) dX12_lists_74 (by decide) rfl (fun c_74 => ?_) (fun c_74 => ?_)
                · exact absurd c_74 (by unfold w32; omega)
                · refine g_aload_n (q := 78) dX12_lists_77 rfl rfl ?_
                  refine g_getA (q := 81) (kI := 34) fX12_81 (by first | assumption | exact S.at _ rfl) dX12_lists_78 rfl rfl (by first | assumption | exact L.at _ _ rfl | exact LK.at (by assumption) _ _ rfl | ((repeat first | rewrite [wr_na (by decide)] | rewrite [wr_nk (by decide)] | rewrite [wa_na (by decide)]); first | assumption | exact LK.at (by assumption) _ _ rfl) | exact rfl) ?_
                  refine g_bipush (q := 83) dX12_lists_81 (by decide +kernel) rfl ?_
                  refine g_iload_n (q := 84) dX12_lists_83 rfl rfl ?_
                  refine g_imul (q := 85) dX12_lists_84 rfl ?_
                  refine g_iload (q := 87) dX12_lists_85 rfl rfl ?_
                  refine g_iadd (q := 88) dX12_lists_87 rfl ?_
                  refine g_aload_n (q := 89) dX12_lists_88 rfl rfl ?_
                  refine g_getA (q := 92) (kI := 23) fX12_47 (by first | assumption | exact S.at _ rfl) dX12_lists_89 rfl rfl (by first | assumption | exact L.at _ _ rfl | exact LK.at (by assumption) _ _ rfl | ((repeat first | rewrite [wr_na (by decide)] | rewrite [wr_nk (by decide)] | rewrite [wa_na (by decide)]); first | assumption | exact LK.at (by assumption) _ _ rfl) | exact rfl) ?_
                  refine g_iload (q := 94) dX12_lists_92 rfl rfl ?_
                  refine g_iaload (q := 95) (by first | assumption | exact S.at _ rfl) (by omega) (by omega) (by omega) dX12_lists_94 rfl ?_
                  refine g_i2l (q := 96) dX12_lists_95 rfl ?_
                  rw [h102]
                  refine g_lastore (q := 97) (by first | assumption | exact S.at _ rfl) (by omega) (by omega) (by omega) dX12_lists_96 rfl ?_
                  refine s_iinc_7_6 (q := 100) dX12_lists_97 rfl rfl rfl ?_
                  refine g_goto (q := 70) dX12_lists_100 (by decide) ?_
                  refine kk _ _ (by simp [lsSub]) ⟨by omega, e.wr (by decide), fun j hj => ?_, fun j a b => ?_⟩
                  · rw [wr_nk (by omega)]
                    exact i1 j (by omega)
                  · by_cases hjk : j = k
                    · subst hjk
                      exact wr_eq
                    · rw [wr_nk (by omega)]
                      exact i2 j a (by omega)
              · rintro c ⟨-, e, i1, i2⟩
                refine g_iload (q := 72) dX12_lists_70 rfl rfl ?_
                refine g_iload (q := 74) dX12_lists_72 rfl rfl ?_
                refine g_icmp_ge (q := 77) (tg := 103) dX12_lists_74 (by decide) rfl (fun c_74 => ?_) (fun c_74 => ?_)
                · refine g_iload (q := 105) dX12_lists_103 rfl rfl ?_
                  refine g_ireturn dX12_lists_105 rfl ?_
                  rw [← hP]
                  refine ⟨_, rfl, Or.inr (Or.inr (Or.inr ⟨htr, hz, htn, m, hwy.1, Or.inr ⟨hm1, hN, fun f hf => ?_⟩⟩)), f1.tr ⟨e.mono (by decide), fun k _ => by rw [e 92 (by decide)]⟩⟩
                  intro u u0 u1
                  rw [e 111 (by decide), e 112 (by decide)]
                  unfold upR
                  by_cases hu : u = t
                  · subst hu
                    right
                    simp only [if_true]
                    refine ⟨g1, by rw [h112], by rw [e1 111 (by decide)]; exact g3, fun j a b => ?_⟩
                    by_cases hj : j < N
                    · rw [if_pos hj, i2 j a hj]
                      have h1 := hf j a hj
                      have h2 := hL.min (useN_ok _ _) a
                      rw [if_pos (by omega)] at h2
                      have h3 := MinOk.uni h1 h2
                      have hr : 0 ≤ c1 102 j ∧ c1 102 j < 60 := by
                        rcases h2 with ⟨a1, b1⟩ | ⟨q, l, b1, b2, b3, ⟨b4, b5, b6⟩ | ⟨b4, b5⟩⟩
                        · have := hwy.1.none.mp
                          exfalso
                          exact this (by
                            rcases hwy.1 with ⟨z1, z2⟩ | ⟨q, z1, z2, -⟩
                            · exact z1
                            · exact absurd z2 (b1 q)) (by
                            rcases hwy.1 with ⟨z1, z2⟩ | ⟨q, z1, z2, -⟩
                            · exact absurd z1 hm1
                            · exact ⟨q, z2⟩)
                        · have hlen := b3.len
                          have hin : j.toNat < l.length := by omega
                          rw [b6, List.getD_eq_getElem?_getD, List.getElem?_eq_getElem hin]
                          show 0 ≤ mnt l[j.toNat] ∧ mnt l[j.toNat] < 60
                          have hk48 : l[j.toNat] < 48 := by
                            have : ∀ (n : Nat) (x : Int × Int) (l : List Nat), Gr (scW β s.2.2 (useN (-1) (-1)) 9 (wM 0)) (goalW β tone (wM 0)) n x l → ∀ i ∈ l, i < 48 := by
                              intro n
                              induction n with
                              | zero =>
                                intro x l h i hi
                                unfold Gr at h
                                rw [h] at hi
                                cases hi
                              | succ n ih =>
                                intro x l h i hi
                                match l, h with
                                | v :: l2, ⟨pre, y, post, q1, q2, q3, q4⟩ =>
                                  rcases List.mem_cons.mp hi with q5 | q5
                                  · rw [q5]
                                    have hmem : (v, y) ∈ scW β s.2.2 (useN (-1) (-1)) 9 (wM 0) x := by rw [q1]; simp
                                    rw [scW_eq] at hmem
                                    obtain ⟨i2, hi2, hi3⟩ := List.mem_map.mp hmem
                                    have := List.mem_range.mp (List.mem_filter.mp hi2).1
                                    have hv : i2 = v := congrArg Prod.fst hi3
                                    omega
                                  · exact ih y l2 q4 i q5
                            exact this q _ l b3 _ (List.getElem_mem hin)
                          have := mnt_in hk48
                          omega
                        · have : ¬ (0 ≤ j ∧ j < (q : Int)) := b4
                          exfalso
                          rcases hwy.1 with ⟨z1, z2⟩ | ⟨q2, z1, z2, z3⟩
                          · exact hm1 z1
                          · have : q = q2 := by
                              rcases Nat.lt_trichotomy q q2 with h | h | h
                              · exact absurd b1 (z3 q h)
                              · exact h
                              · exact absurd z2 (b2 q2 h)
                            omega
                      rw [h3, w32_id (by omega) (by omega)]
                      exact ⟨rfl, by unfold i64; omega⟩
                    · rw [if_neg hj, i1 _ (by omega), e1 113 (by decide)]
                      exact g4 j a b
                  · simp only [hu, if_false]
                    rcases T1 u u0 u1 with h | ⟨q1, q2, q3, q4⟩
                    · exact Or.inl h
                    · refine Or.inr ⟨q1, q2, q3, fun j a b => ?_⟩
                      rw [i1 _ (by omega)]
                      exact q4 j a b
                · exact absurd c_74 (Int.lt_irrefl _)
            refine g_iload (q := 45) dX12_lists_43 rfl rfl ?_
            refine g_aload_n (q := 46) dX12_lists_45 rfl rfl ?_
            refine g_getA (q := 49) (kI := 33) fX12_78 (by first | assumption | exact S.at _ rfl) dX12_lists_46 rfl rfl (by first | assumption | exact L.at _ _ rfl | exact LK.at (by assumption) _ _ rfl | ((repeat first | rewrite [wr_na (by decide)] | rewrite [wr_nk (by decide)] | rewrite [wa_na (by decide)]); first | assumption | exact LK.at (by assumption) _ _ rfl) | exact rfl) ?_
            refine g_iload_n (q := 50) dX12_lists_49 rfl rfl ?_
            refine g_iaload (q := 51) (by first | assumption | exact S.at _ rfl) (by omega) (by omega) (by omega) dX12_lists_50 rfl ?_
            refine g_icmp_ge (q := 54) (tg := 59) dX12_lists_51 (by decide) rfl (fun c_51 => ?_) (fun c_51 => ?_)
            · rw [h112] at c_51
              refine g_aload_n (q := 60) dX12_lists_59 rfl rfl ?_
              refine g_getA (q := 63) (kI := 33) fX12_78 (by first | assumption | exact S.at _ rfl) dX12_lists_60 rfl rfl (by first | assumption | exact L.at _ _ rfl | exact LK.at (by assumption) _ _ rfl | ((repeat first | rewrite [wr_na (by decide)] | rewrite [wr_nk (by decide)] | rewrite [wa_na (by decide)]); first | assumption | exact LK.at (by assumption) _ _ rfl) | exact rfl) ?_
              refine g_iload_n (q := 64) dX12_lists_63 rfl rfl ?_
              refine g_iaload (q := 65) (by first | assumption | exact S.at _ rfl) (by omega) (by omega) (by omega) dX12_lists_64 rfl ?_
              rw [h112]
              exact tail (sz t) (by rw [if_neg (by unfold w32 at c_51; omega)])
            · rw [h112] at c_51
              refine g_iload (q := 56) dX12_lists_54 rfl rfl ?_
              refine g_goto (q := 65) dX12_lists_56 (by decide) ?_
              exact tail m (by rw [if_pos (by unfold w32 at c_51; omega)])
          · refine g_bipush (q := 42) dX12_lists_40 (by decide +kernel) rfl ?_
            refine g_ireturn dX12_lists_42 rfl ?_
            rw [← hP]
            exact ⟨_, rfl, Or.inr (Or.inr (Or.inr ⟨htr, hz, htn, m, hwy.1, Or.inl ⟨by unfold w32 at c_37; omega, rfl, T1⟩⟩)), f1⟩
        · refine g_bipush (q := 26) dX12_lists_24 (by decide +kernel) rfl ?_
          refine g_ireturn dX12_lists_26 rfl ?_
          rw [← hP]
          exact ⟨_, rfl, Or.inr (Or.inr (Or.inl ⟨htr, hz, wb0.mp c_21, rfl, T0⟩)), f0⟩
      · exact absurd rfl c_12
  · rw [if_neg htr]
    refine s_istore_n_7_3 (q := 11) dX12_lists_10 rfl rfl rfl ?_
    refine g_iload_n (q := 12) dX12_lists_11 rfl rfl ?_
    refine g_if_eq (q := 15) (tg := 17) dX12_lists_12 (by decide) rfl (fun c_12 => ?_) (fun c_12 => ?_)
    · exact absurd c_12 (by decide)
    · refine g_iload_n (q := 16) dX12_lists_15 rfl rfl ?_
      refine g_ireturn dX12_lists_16 rfl ?_
      rw [← hP]
      exact ⟨_, rfl, Or.inl ⟨htr, rfl, T0⟩, f0⟩
/-- images: which were made; of which book and sitting -/
def MI (ct : mbCt) (hi : Int → Int) (bi : Int → Bk) (si : Int → Sit) : Prop := ∀ i, 0 ≤ i → i < 2 → (hi i = 0 ∧ ct 94 i = 0) ∨ (hi i = 1 ∧ ct 94 i = 1 ∧ mBk (ct 93) (1040 * (i + 1)) (bi i) ∧ sitM (ct 93) (1040 * (i + 1) + 28) (si i) ∧ sitB (si i))
def up1' {α : Type} (f : Int → α) (t : Int) (v : α) : Int → α := fun k => if k = t then v else f k
theorem tw_image {i : Int} {hi : Int → Int} {bi : Int → Bk} {si : Int → Sit} (S : SH sh) (M : MP ct β s n pl) (I : MI ct hi bi si) (h : i32 i) : Mt YX12_image (d + 1) [.inr (.inr 92), .inl i] sh sh ct (pI fun r c => ((¬ (0 ≤ i ∧ i ≤ 1) ∧ r = -2 ∧ MI c hi bi si) ∨ ((0 ≤ i ∧ i ≤ 1) ∧ r = 0 ∧ MI c (up1 hi i 1) (up1' bi i β) (up1' si i s))) ∧ MP c β s n pl ∧ eqBut [92, 93, 94] ct c ∧ ∀ k, k ≠ 0 → c 92 k = ct 92 k) := by
  unfold i32 at h
  have s93 : shA sh 93 = some (20, 3120) := S.at _ rfl
  have s94 : shA sh 94 = some (24, 2) := S.at _ rfl
  have M0 := M.th (k := 0) (v := 0) (Or.inl rfl)
  have I0 : MI (wr ct 92 0 0) hi bi si := by
    unfold MI
    rw [wr_other ct 92 _ _ 93 (by decide), wr_other ct 92 _ _ 94 (by decide)]
    exact I
  have e0 : eqBut [92, 93, 94] ct (wr ct 92 0 0) := eqBut.rf.wr (by decide)
  have k0 : ∀ k, k ≠ 0 → wr ct 92 0 0 92 k = ct 92 k := fun k hk => wr_nk hk
  generalize hP : (pI fun r c => ((¬ (0 ≤ i ∧ i ≤ 1) ∧ r = -2 ∧ MI c hi bi si) ∨ ((0 ≤ i ∧ i ≤ 1) ∧ r = 0 ∧ MI c (up1 hi i 1) (up1' bi i β) (up1' si i s))) ∧ MP c β s n pl ∧ eqBut [92, 93, 94] ct c ∧ ∀ k, k ≠ 0 → c 92 k = ct 92 k) = Po
  refine Mt.of rfl (Nat.le_of_ble_eq_true rfl) ?_
  show G _ 0 [some (.inr (.inr 92)), some (.inl i), none] [] sh ct
  refine g_aload_n (q := 1) dX12_image_0 rfl rfl ?_
  refine g_iconst (q := 2) dX12_image_1 rfl ?_
  refine g_putI (q := 5) (kI := 0) fX12_1 (by first | assumption | exact S.at _ rfl) dX12_image_2 rfl rfl ?_
  refine g_iload_n (q := 6) dX12_image_5 rfl rfl ?_
  refine g_i2l (q := 7) dX12_image_6 rfl ?_
  refine g_lconst0 (q := 8) dX12_image_7 rfl ?_
  refine g_lconst1 (q := 9) dX12_image_8 rfl ?_
  rw [w32_id (x := i) h.1 h.2]
  generalize hc0 : wr ct 92 0 0 = c0 at *
  refine g_callS (q := 12) lX12_150 mX12_within sX12_within rfl (tw_within d sh _) shLe.rf (rmOk.mk (by omega) (by first | exact shLe.rf | assumption)) (Nat.le_of_ble_eq_true rfl) dX12_image_9 rfl rfl (kI fun r_ c_ hp => ?_)
  obtain ⟨hr, hq⟩ := hp
  replace hr := hr.symm
  replace hq := hq.symm
  subst hr hq
  refine g_if_ne (q := 15) (tg := 18) dX12_image_12 (by decide) rfl (fun c_12 => ?_) (fun c_12 => ?_)
  · have h12 : 0 ≤ i ∧ i ≤ 1 := by
      have := wbn.mp c_12
      unfold w64 at this
      omega
    have L0 := M0.1.1
    refine g_iconst (q := 19) dX12_image_18 rfl ?_
    refine s_istore_n_3_2 (q := 20) dX12_image_19 rfl rfl rfl ?_
    refine g_for (fun k => [some (.inr (.inr 92)), some (.inl i), some (.inl k)]) (fun k c => 0 ≤ k ∧ eqBut [93] c0 c ∧ (∀ j, (j < 1040 * (i + 1) ∨ 1040 * (i + 1) + k ≤ j) → c 93 j = c0 93 j) ∧ ∀ j, 0 ≤ j → j < k → c 93 (1040 * (i + 1) + j) = c0 93 j) 1040 ?_ ?_ (i := 0) (by omega) ⟨by omega, eqBut.rf, fun _ _ => rfl, fun j _ _ => by omega⟩ (by simp [lsSub])
    · rintro k c hk ⟨q0, e, i1, i2⟩ kk
      have Lc : LK c := L0.eb e rfl
      have hv : c 93 k = c0 93 k := i1 k (by omega)
      refine g_iload_n (q := 21) dX12_image_20 rfl rfl ?_
      refine g_sipush (q := 24) dX12_image_21 (by decide +kernel) rfl ?_
      refine g_icmp_ge (q := 27) (tg := 53) dX12_image_24 (by decide) rfl (fun c_24 => ?_) (fun c_24 => ?_)
      · exact absurd c_24 (by unfold w32; omega)
      · refine g_aload_n (q := 28) dX12_image_27 rfl rfl ?_
        refine g_getA (q := 31) (kI := 1) fX12_13 (by first | assumption | exact S.at _ rfl) dX12_image_28 rfl rfl (by first | assumption | exact L.at _ _ rfl | exact LK.at (by assumption) _ _ rfl | ((repeat first | rewrite [wr_na (by decide)] | rewrite [wr_nk (by decide)] | rewrite [wa_na (by decide)]); first | assumption | exact LK.at (by assumption) _ _ rfl) | exact rfl) ?_
        refine g_sipush (q := 34) dX12_image_31 (by decide +kernel) rfl ?_
        refine g_iload_n (q := 35) dX12_image_34 rfl rfl ?_
        refine g_iconst (q := 36) dX12_image_35 rfl ?_
        refine g_iadd (q := 37) dX12_image_36 rfl ?_
        refine g_imul (q := 38) dX12_image_37 rfl ?_
        refine g_iload_n (q := 39) dX12_image_38 rfl rfl ?_
        refine g_iadd (q := 40) dX12_image_39 rfl ?_
        refine g_aload_n (q := 41) dX12_image_40 rfl rfl ?_
        refine g_getA (q := 44) (kI := 1) fX12_13 (by first | assumption | exact S.at _ rfl) dX12_image_41 rfl rfl (by first | assumption | exact L.at _ _ rfl | exact LK.at (by assumption) _ _ rfl | ((repeat first | rewrite [wr_na (by decide)] | rewrite [wr_nk (by decide)] | rewrite [wa_na (by decide)]); first | assumption | exact LK.at (by assumption) _ _ rfl) | exact rfl) ?_
        refine g_iload_n (q := 45) dX12_image_44 rfl rfl ?_
        refine g_iaload (q := 46) (by first | assumption | exact S.at _ rfl) (by omega) (by omega) (by omega) dX12_image_45 rfl ?_
        rw [hv]
        refine g_iastore (q := 47) (by first | assumption | exact S.at _ rfl) (by omega) (by omega) (by omega) dX12_image_46 rfl ?_
        refine s_iinc_3_2 (q := 50) dX12_image_47 rfl rfl rfl ?_
        refine g_goto (q := 20) dX12_image_50 (by decide) ?_
        refine kk _ _ (by simp [lsSub]) ⟨by omega, e.wr (by decide), fun j hj => ?_, fun j a b => ?_⟩
        · rw [wr_nk (by omega)]
          exact i1 j (by omega)
        · by_cases hjk : j = k
          · subst hjk
            exact wr_eq
          · rw [wr_nk (by omega)]
            exact i2 j a (by omega)
    · rintro c ⟨-, e, i1, i2⟩
      have Lc : LK c := L0.eb e rfl
      have fr : ∀ j, j < 1040 → c 93 j = c0 93 j := fun j hj => i1 j (by omega)
      refine g_iload_n (q := 21) dX12_image_20 rfl rfl ?_
      refine g_sipush (q := 24) dX12_image_21 (by decide +kernel) rfl ?_
      refine g_icmp_ge (q := 27) (tg := 53) dX12_image_24 (by decide) rfl (fun c_24 => ?_) (fun c_24 => ?_)
      · refine g_aload_n (q := 54) dX12_image_53 rfl rfl ?_
        refine g_getA (q := 57) (kI := 2) fX12_17 (by first | assumption | exact S.at _ rfl) dX12_image_54 rfl rfl (by first | assumption | exact L.at _ _ rfl | exact LK.at (by assumption) _ _ rfl | ((repeat first | rewrite [wr_na (by decide)] | rewrite [wr_nk (by decide)] | rewrite [wa_na (by decide)]); first | assumption | exact LK.at (by assumption) _ _ rfl) | exact rfl) ?_
        refine g_iload_n (q := 58) dX12_image_57 rfl rfl ?_
        refine g_iconst (q := 59) dX12_image_58 rfl ?_
        refine g_zastore (q := 60) (by first | assumption | exact S.at _ rfl) (by first | exact Or.inl rfl | exact Or.inr rfl | assumption) (by omega) (by omega) (by omega) dX12_image_59 rfl ?_
        refine g_iconst (q := 61) dX12_image_60 rfl ?_
        refine g_ireturn dX12_image_61 rfl ?_
        rw [← hP]
        have e94 : wr c 94 i 1 93 = c 93 := wr_other _ _ _ _ _ (by decide)
        refine ⟨_, rfl, Or.inr ⟨h12, rfl, ?_⟩, ?_, ?_, ?_⟩
        · intro u u0 u1
          rw [e94]
          unfold up1 up1'
          by_cases hu : u = i
          · subst hu
            right
            simp only [if_true]
            refine ⟨trivial, wr_eq, M0.1.2.1.cp (fun j hj => ?_), M0.1.2.2.1.cp (fun j a b => ?_), M0.1.2.2.2⟩
            · rw [Int.zero_add]
              exact i2 j (by omega) (by omega)
            · rw [show 1040 * (u + 1) + 28 + j = 1040 * (u + 1) + (28 + j) by omega]
              exact i2 (28 + j) (by omega) (by omega)
          · simp only [hu, if_false]
            rw [wr_nk hu, e 94 (by decide)]
            rcases I0 u u0 u1 with q | ⟨q1, q2, q3, q4, q5⟩
            · exact Or.inl q
            · refine Or.inr ⟨q1, q2, q3.cp (fun j hj => i1 _ (by omega)), q4.cp (fun j a b => i1 _ (by omega)), q5⟩
        · refine ⟨⟨Lc.wr (lkF_none rfl i), M0.1.2.1.cp (fun j hj => ?_), M0.1.2.2.1.cp (fun j a b => ?_), M0.1.2.2.2⟩, ?_⟩
          · rw [e94]
            exact fr _ (by omega)
          · rw [e94]
            exact fr _ (by omega)
          · rw [e94]
            obtain ⟨p1, p2, p3⟩ := M0.2
            refine ⟨by rw [fr 38 (by omega)]; exact p1, p2, fun k a b => ?_⟩
            have := p3 k a b
            exact ⟨this.1.cp (fun j a b => fr _ (by omega)), this.2⟩
        · exact (e0.tr (e.mono (by decide))).wr (by decide)
        · intro k hk
          rw [wr_na (by decide), e 92 (by decide)]
          exact k0 k hk
      · exact absurd c_24 (by decide)
  · refine g_bipush (q := 17) dX12_image_15 (by decide +kernel) rfl ?_
    refine g_ireturn dX12_image_17 rfl ?_
    rw [← hP]
    refine ⟨_, rfl, Or.inl ⟨fun z => ?_, rfl, I0⟩, M0, e0, k0⟩
    have := wb0.mp c_12
    unfold w64 at this
    omega
end
