/-! Game: what is forced -/
theorem MV.big {ct c : mbCt} {b : Int} {β : Bk} {mk : Int → Int} (h : MV ct b β mk) (hL : LK c) (qf : ∀ x : Int, x < 77 → c x = ct x) : MV c b β mk := by
  have bb : b = 2 ∨ b = 7 := h.hb
  have e0 := qf b (by omega)
  have e2 := qf (b + 2) (by omega)
  have e3 := qf (b + 3) (by omega)
  have e4 := qf (b + 4) (by omega)
  have e69 := qf 69 (by omega)
  have e70 := qf 70 (by omega)
  have e71 := qf 71 (by omega)
  have e72 := qf 72 (by omega)
  have e73 := qf 73 (by omega)
  have e74 := qf 74 (by omega)
  refine ⟨⟨hL, h.hb, by rw [e70]; exact h.h0⟩, ⟨bkWf_eq e0 e4 h.wf, by rw [e69]; exact h.ask⟩, ⟨mvMin_eq e0 e4 e71 e72 h.mn, mvCl_eq e0 e4 e73 h.cl, ?_⟩, ⟨by rw [e70]; exact h.la.1, ?_⟩, by rw [e0]; exact h.rg, by rw [e71]; exact h.mr, by rw [bkOf_eq e0 e2 e3 e4]; exact h.bk, by rw [e71]; exact h.mks⟩
  · have t := h.tu
    unfold mvTurn at *
    rw [e0, e2, e3, e74]
    exact t
  · have t := h.la.2
    unfold noLast at *
    rw [e70, e0, e4]
    exact t
theorem gW_quiet {sc : Int → List Int} {en : Int → Prop} {st : Int} {lv : Nat} (h : ∀ f x, x ∈ sc st → gW sc en lv f x → ∃ l, lv = l + 1 ∧ gW sc en l f x) (f : Bool) (hn : ¬ gW sc en lv f st) : ¬ gW sc en (lv + 1) f st := by
  intro hg
  apply hn
  cases f
  · rcases hg with hg | ⟨ha, hg⟩
    · exact gW_le (m := 0) (Nat.zero_le _) hg
    · match hsc : sc st, ha with
      | x :: r, _ =>
        obtain ⟨l, hl, -⟩ := h true x (by rw [hsc]; simp) (hg x (by rw [hsc]; simp))
        subst hl
        refine Or.inr ⟨by rw [hsc]; simp, fun y hy => ?_⟩
        obtain ⟨l2, hl2, h3⟩ := h true y hy (hg y hy)
        rw [show l = l2 by omega]
        exact h3
  · rcases hg with hg | ⟨x, hx, hg⟩
    · exact gW_le (m := 0) (Nat.zero_le _) hg
    · obtain ⟨l, hl, h3⟩ := h false x hx hg
      subst hl
      exact Or.inr ⟨x, hx, h3⟩
theorem lv_pig {F : Bool → Int → Int} {R : Int → Prop} {lv : Nat} {from' : Int} (hR : ∀ st, R st → 0 ≤ st ∧ st < 700) (hf : R from') (h : ∀ i : Nat, 1 ≤ i → i ≤ lv → ∃ f st, R st ∧ F f st = (i : Int)) (hn : F true from' = -1) : lv < 1400 := by
  have hx : ∀ i : Nat, ∃ p : Bool × Int, i ≤ lv → (R p.2 ∧ F p.1 p.2 = if i = 0 then -1 else (i : Int)) := by
    intro i
    by_cases h0 : i = 0
    · exact ⟨(true, from'), fun _ => ⟨hf, by rw [if_pos h0]; exact hn⟩⟩
    · by_cases hi : i ≤ lv
      · obtain ⟨f, st, h1, h2⟩ := h i (by omega) hi
        exact ⟨(f, st), fun _ => ⟨h1, by rw [if_neg h0]; exact h2⟩⟩
      · exact ⟨(true, 0), fun z => absurd z hi⟩
  obtain ⟨g, hg⟩ := Classical.axiomOfChoice hx
  have := pig 1400 (lv + 1) (fun i => (g i).2.toNat + if (g i).1 = true then 0 else 700) ?_ ?_
  · omega
  · intro j hj
    have h1 := hR _ (hg j (by omega)).1
    show (g j).2.toNat + (if (g j).1 = true then 0 else 700) < 1400
    split <;> omega
  · intro j k hj hk he
    have he' : (g j).2.toNat + (if (g j).1 = true then 0 else 700) = (g k).2.toNat + (if (g k).1 = true then 0 else 700) := he
    obtain ⟨a1, a2⟩ := hg j (by omega)
    obtain ⟨b1, b2⟩ := hg k (by omega)
    have h1 := hR _ a1
    have h2 := hR _ b1
    have e2 : (g j).2 = (g k).2 := by
      split at he' <;> split at he' <;> omega
    have e1 : (g j).1 = (g k).1 := by
      cases hj1 : (g j).1 <;> cases hk1 : (g k).1 <;> simp [hj1, hk1] at he' ⊢ <;> omega
    rw [e1, e2, b2] at a2
    split at a2 <;> split at a2 <;> omega
/-- what was played for is right -/
def GD (c : mbCt) (β : Bk) (mk : Int → Int) (from' tone : Int) : Prop := ∃ (R : Int → Prop) (lv : Nat), R from' ∧ (∀ st, R st → 0 ≤ st ∧ st < 700) ∧ (∀ st, R st → ∀ x ∈ scG β mk st, R x) ∧ (∀ f st, R st → exA (c (tG f)) (gP β mk tone f) lv st) ∧ (c 88 from' = -1 → ∀ m, ¬ gP β mk tone true m from')
def GI (c : mbCt) (β : Bk) (mk : Int → Int) : Prop := (∀ f, rngG (c (tG f))) ∧ (-1 ≤ c 87 6 ∧ c 87 6 ≤ c 70 7) ∧ (0 ≤ c 87 7 ∧ c 87 7 < 700) ∧ (-1 ≤ c 87 8 ∧ c 87 8 ≤ 10) ∧ (c 87 6 = c 70 7 → GD c β mk (c 87 7) (c 87 8))
def GRes (ct : mbCt) (b : Int) (β : Bk) (mk : Int → Int) (q : Int) (N : Nat) (from' tone : Int) (c : mbCt) : Prop := eqBq [68, 69, 72, 73, 75, 76, 77, 79, 87, 88, 89, 90, 91] q ct c ∧ MV c b β mk ∧ WI c q N β mk ∧ GI c β mk ∧ c 87 6 = c 70 7 ∧ c 87 7 = from' ∧ c 87 8 = tone
theorem Rq_cl {c : mbCt} {q : Int} {N n : Nat} {β : Bk} {mk : Int → Int} {from' : Int} (h : WA c q N n β mk from') : (∀ st, Rq c q n st → 0 ≤ st ∧ st < 700) ∧ Rq c q n from' ∧ ∀ st, Rq c q n st → ∀ x ∈ scG β mk st, Rq c q n x := by
  obtain ⟨h1, h2, h3, B, h5⟩ := h
  refine ⟨?_, ⟨0, B.1.1, by rw [B.1.2]⟩, ?_⟩
  · rintro st ⟨j, hj, rfl⟩
    have := h3 j hj
    show 0 ≤ c q j % 1024 ∧ c q j % 1024 < 700
    omega
  · rintro st ⟨j, hj, rfl⟩ x hx
    obtain ⟨k, hk, rfl⟩ := List.mem_map.mp hx
    have hkm := brL_mem.mp hk
    have hin : scN β 0 (ndQ c q j) k ∈ scW β mk 281474976710655 9 0 (ndQ c q j) := by
      unfold scW scK
      refine List.mem_filter.mpr ⟨List.mem_map.mpr ⟨k, brL_mem.mpr ⟨hkm.1, ?_⟩, rfl⟩, rfl⟩
      rw [Nat.testBit_and, hkm.2, Bool.true_and]
      have : (281474976710655 : Nat) = 2 ^ 48 - 1 := by decide
      rw [this, Nat.testBit_two_pow_sub_one, decide_eq_true hkm.1]
    obtain ⟨i, hi, hi2, -⟩ := B.step hj hj hin
    exact ⟨i, hi, by rw [hi2]; rfl⟩
section
variable (d : Nat) (sh : mbSh) (ct : mbCt)
def JG (c2 : mbCt) (b : Int) (β : Bk) (mk : Int → Int) (tone : Int) (R : Int → Prop) (lv : Nat) (more : Int) (c : mbCt) : Prop := eqBut [68, 69, 72, 73, 75, 76, 88, 89, 90, 91] c2 c ∧ MV c b β mk ∧ z01 (c 90) ∧ (∀ f, rngG (c (tG f))) ∧ (∀ f st, R st → exA (c (tG f)) (gP β mk tone f) lv st) ∧ (∀ f st, R st → c (tG f) st = (lv : Int) → c 90 (st / 7) = 1) ∧ ((more = 0 ∧ ∀ m f st, R st → gP β mk tone f m st → gP β mk tone f lv st) ∨ (more = 1 ∧ ∀ i : Nat, 1 ≤ i → i ≤ lv → ∃ f st, R st ∧ c (tG f) st = (i : Int)))
theorem exA_low {f : Int → Int} {P : Nat → Int → Prop} {lv : Nat} {st : Int} (h : exA f P lv st) (hn : f st ≠ (lv : Int)) (hp : P lv st) (hP : ∀ m n st, m ≤ n → P m st → P n st) : ∃ l, lv = l + 1 ∧ P l st := by
  rcases h with ⟨-, h⟩ | ⟨i, i1, i2, i3, -⟩
  · exact absurd hp h
  · match lv with
    | 0 => exact absurd (by rw [i2, show i = 0 by omega]) hn
    | l + 1 => exact ⟨l, rfl, hP i l st (by have : i ≠ l + 1 := fun e => hn (by rw [i2, e]); omega) i3⟩
theorem c_forcedWithin {q b from' tone : Int} {β : Bk} {mk : Int → Int} {N : Nat} (S : SH sh) (MM : MV ct b β mk) (W : WI ct q N β mk) (sq : shA sh q = some (20, N)) (hG : GI ct β mk) (f0 : 0 ≤ from') (f1 : from' < 700) (t0 : -1 ≤ tone) (t1 : tone ≤ 9) : Mt YX1_forcedWithin (d + 5) [.inr (.inr 87), .inl from', .inl tone] sh sh ct (pI fun r c => r = c 88 from' ∧ GRes ct b β mk q N from' tone c) := by
  have hP : ∀ f m n st, m ≤ n → gP β mk tone f m st → gP β mk tone f n st := fun f => gP_le
  obtain ⟨w1, w2, w3, w4, w5, w6, w7, w8, w9, w10⟩ := id W.1
  obtain ⟨g1, g2, g3, g4, g5⟩ := id hG
  have L := MM.L
  have s88 : shA sh 88 = some (20, 700) := S.at _ rfl
  have s89 : shA sh 89 = some (20, 700) := S.at _ rfl
  have s90 : shA sh 90 = some (20, 100) := S.at _ rfl
  have s91 : shA sh 91 = some (20, 100) := S.at _ rfl
  have qne : ∀ x : Int, 79 ≤ x → x < 114 → x ≠ q := by intro x x0 x1; rcases w2 with h | h <;> omega
  have qf : q ∉ ([68, 69, 72, 73, 75, 76, 88, 89, 90, 91] : List Int) := by rcases w2 with rfl | h; decide; simp; omega
  generalize hPo : (pI fun r c => r = c 88 from' ∧ GRes ct b β mk q N from' tone c) = Po
  have fresh : G (mkK YX1_forcedWithin (d + 5) sh sh Po) 40 [some (.inr (.inr 87)), some (.inl from'), some (.inl tone), none, none, none] [] sh ct := by
    refine g_aload_n (q := 41) dX1_forcedWithin_40 rfl rfl ?_
    refine g_aload_n (q := 42) dX1_forcedWithin_41 rfl rfl ?_
    refine g_getO (q := 45) (kI := 0) fX1_28 (by first | assumption | exact S.at _ rfl) dX1_forcedWithin_42 rfl rfl (by first | assumption | exact L.at _ _ rfl | exact LK.at (by assumption) _ _ rfl | ((repeat first | rewrite [wr_na (by decide)] | rewrite [wr_nk (by decide)] | rewrite [wa_na (by decide)]); first | assumption | exact LK.at (by assumption) _ _ rfl) | exact rfl) ?_
    refine g_getI (q := 48) (kI := 7) fX1_36 (by first | assumption | exact S.at _ rfl) dX1_forcedWithin_45 rfl rfl ?_
    refine g_putI (q := 51) (kI := 6) fX1_24 (by first | assumption | exact S.at _ rfl) dX1_forcedWithin_48 rfl rfl ?_
    refine g_aload_n (q := 52) dX1_forcedWithin_51 rfl rfl ?_
    refine g_iload_n (q := 53) dX1_forcedWithin_52 rfl rfl ?_
    refine g_putI (q := 56) (kI := 7) fX1_39 (by first | assumption | exact S.at _ rfl) dX1_forcedWithin_53 rfl rfl ?_
    refine g_aload_n (q := 57) dX1_forcedWithin_56 rfl rfl ?_
    refine g_iload_n (q := 58) dX1_forcedWithin_57 rfl rfl ?_
    refine g_putI (q := 61) (kI := 8) fX1_42 (by first | assumption | exact S.at _ rfl) dX1_forcedWithin_58 rfl rfl ?_
    generalize hc0 : wr (wr (wr ct 87 6 (ct 70 7)) 87 7 from') 87 8 tone = c0
    have M0 : MV c0 b β mk := by
      rw [← hc0]
      exact ((MM.x (a := 87) (k := 6) (by decide) rfl rfl).x (a := 87) (k := 7) (by decide) rfl rfl).x (a := 87) (k := 8) (by decide) rfl rfl
    have o0 : ∀ x, x ≠ 87 → c0 x = ct x := fun x hx => by rw [← hc0, wr_other _ _ _ _ x hx, wr_other _ _ _ _ x hx, wr_other _ _ _ _ x hx]
    have k6 : c0 87 6 = ct 70 7 := by rw [← hc0, wr_nk (by decide), wr_nk (by decide), wr_eq]
    have k7 : c0 87 7 = from' := by rw [← hc0, wr_nk (by decide), wr_eq]
    have k8 : c0 87 8 = tone := by rw [← hc0, wr_eq]
    have W0 : WI c0 q N β mk := W.mv (o0 77 (by decide)) (o0 q (fun e => qne 87 (by decide) (by decide) e.symm)) (o0 79 (by decide)) (o0 70 (by decide))
    have L0 := M0.L
    refine g_aload_n (q := 62) dX1_forcedWithin_61 rfl rfl ?_
    refine g_getO (q := 65) (kI := 1) fX1_32 (by first | assumption | exact S.at _ rfl) dX1_forcedWithin_62 rfl rfl (by first | assumption | exact L.at _ _ rfl | exact LK.at (by assumption) _ _ rfl | ((repeat first | rewrite [wr_na (by decide)] | rewrite [wr_nk (by decide)] | rewrite [wa_na (by decide)]); first | assumption | exact LK.at (by assumption) _ _ rfl) | exact rfl) ?_
    refine g_aload_n (q := 66) dX1_forcedWithin_65 rfl rfl ?_
    refine g_getI (q := 69) (kI := 7) fX1_39 (by first | assumption | exact S.at _ rfl) dX1_forcedWithin_66 rfl rfl ?_
    rw [k7]
    refine g_bipush (q := 71) dX1_forcedWithin_69 (by decide +kernel) rfl ?_
    refine g_ldc2 (q := 74) dX1_forcedWithin_71 kX1_45 rfl ?_
    refine g_bipush (q := 76) dX1_forcedWithin_74 (by decide +kernel) rfl ?_
    refine g_iconst (q := 77) dX1_forcedWithin_76 rfl ?_
    refine g_callV (q := 80) lX1_47 mX10_find nX10_find rfl (c_find (M := 0) d sh c0 S M0 W0 sq f0 f1 (show (-1 : Int) ≤ 10 by decide) (by decide) (by decide) (by decide) rfl (by decide) (Or.inl rfl) (by have e0 : ndM 0 = 700 := (by decide +kernel); omega)) (by first | assumption | exact S.at _ rfl) rfl rfl shLe.rf (rmOk.mk (by omega) (by first | exact shLe.rf | assumption)) (Nat.le_of_ble_eq_true rfl) dX1_forcedWithin_77 rfl rfl (kI fun r c1 hp => ?_)
    obtain ⟨-, p1, M1, W1, D1, p6, p7, p8, p9, p10, p11⟩ := hp
    obtain ⟨cnt, A1⟩ := D1.all p7 p8 (by rw [p9]; decide) p10 p11
    obtain ⟨u1, u2, u3, u4, u5, u6, u7, u8, u9, u10⟩ := id W1.1
    have L1 := M1.L
    obtain ⟨Rr, Rf, Rc⟩ := Rq_cl A1
    have a87 : c1 87 = c0 87 := p1 87 (by decide) (qne 87 (by decide) (by decide))
    have a70 : c1 70 = ct 70 := by rw [p1 70 (by decide) (by rcases w2 with h | h <;> omega), o0 70 (by decide)]
    have fq : eqBq [68, 69, 72, 73, 75, 76, 77, 79, 87, 88, 89, 90, 91] q ct c1 := by
      intro x hx hxq
      rw [p1 x (fun z => hx (by simp at z ⊢; omega)) hxq, o0 x (fun e => hx (by rw [e]; decide))]
    obtain ⟨v1, v2, v3, v4, v5⟩ := id A1
    refine g_pop (q := 81) dX1_forcedWithin_80 rfl rfl ?_
    refine g_aload_n (q := 82) dX1_forcedWithin_81 rfl rfl ?_
    refine g_getA (q := 85) (kI := 4) fX1_18 (by first | assumption | exact S.at _ rfl) dX1_forcedWithin_82 rfl rfl (by first | assumption | exact L.at _ _ rfl | exact LK.at (by assumption) _ _ rfl | ((repeat first | rewrite [wr_na (by decide)] | rewrite [wr_nk (by decide)] | rewrite [wa_na (by decide)]); first | assumption | exact LK.at (by assumption) _ _ rfl) | exact rfl) ?_
    refine g_iconst (q := 86) dX1_forcedWithin_85 rfl ?_
    refine g_callS (q := 89) lX1_53 mJ7_fill_53178 sJ7_fill_53178 rfl (c_fillI (d + 4) sh c1 s90 (by decide)) shLe.rf (rmOk.mk (by omega) (by first | exact shLe.rf | assumption)) (Nat.le_of_ble_eq_true rfl) dX1_forcedWithin_86 rfl rfl (kN fun c2 hp2 => ?_)
    have b12 : ∀ x, x ≠ 90 → c2 x = c1 x := fun x hx => by rw [hp2]; exact wa_other _ _ _ _ hx
    have b90 : ∀ x : Int, 0 ≤ x → x < 100 → c2 90 x = 0 := by
      intro x x0 x1
      rw [hp2, wa_eq]
      unfold flF
      rw [if_pos (by omega)]
    have M2 : MV c2 b β mk := M1.big (by rw [hp2]; exact L1.wa (lkF_none rfl)) (fun x hx => b12 x (by omega))
    have n12 : ∀ c : mbCt, c q = c2 q → ndQ c q = ndQ c1 q ∧ Rq c q cnt = Rq c1 q cnt := by
      intro c hc
      have : ndQ c q = ndQ c1 q := by funext j; unfold ndQ; rw [hc, b12 q (fun e => qne 90 (by decide) (by decide) e.symm)]
      exact ⟨this, by funext st; unfold Rq; rw [this]⟩
    refine g_iconst (q := 90) dX1_forcedWithin_89 rfl ?_
    refine s_istore_n_6_3 (q := 91) dX1_forcedWithin_90 rfl rfl rfl ?_
    -- the rounds
    have main : ∀ (k lv : Nat) (more : Int) (c : mbCt) (o5 : Option gV), lv + k = 1400 → JG c2 b β mk tone (Rq c1 q cnt) lv more c → G (mkK YX1_forcedWithin (d + 5) sh sh Po) 195 [some (.inr (.inr 87)), some (.inl from'), some (.inl tone), some (.inl more), some (.inl ((lv + 1 : Nat) : Int)), o5] [] sh c := by
      intro k
      have endG : ∀ (lv : Nat) (more : Int) (c : mbCt) (o5 : Option gV), JG c2 b β mk tone (Rq c1 q cnt) lv more c → (c 88 from' = -1 → ∀ m, ¬ gP β mk tone true m from') → G (mkK YX1_forcedWithin (d + 5) sh sh Po) 237 [some (.inr (.inr 87)), some (.inl from'), some (.inl tone), some (.inl more), some (.inl ((lv + 1 : Nat) : Int)), o5] [] sh c := by
        intro lv more c o5 hJ hend
        obtain ⟨j1, j2, j3, j4, j5, j6, j7⟩ := hJ
        have Lc := j2.L
        have e87 : c 87 = c0 87 := by rw [j1 87 (by decide), b12 87 (by decide), a87]
        have e70 : c 70 = ct 70 := by rw [j1 70 (by decide), b12 70 (by decide), a70]
        have e77 : c 77 = c1 77 := by rw [j1 77 (by decide), b12 77 (by decide)]
        have e79 : c 79 = c1 79 := by rw [j1 79 (by decide), b12 79 (by decide)]
        have eq : c q = c1 q := by rw [j1 q qf, b12 q (fun e => qne 90 (by decide) (by decide) e.symm)]
        refine g_aload_n (q := 238) dX1_forcedWithin_237 rfl rfl ?_
        refine g_getA (q := 241) (kI := 2) fX1_9 (by first | assumption | exact S.at _ rfl) dX1_forcedWithin_238 rfl rfl (by first | assumption | exact L.at _ _ rfl | exact LK.at (by assumption) _ _ rfl | ((repeat first | rewrite [wr_na (by decide)] | rewrite [wr_nk (by decide)] | rewrite [wa_na (by decide)]); first | assumption | exact LK.at (by assumption) _ _ rfl) | exact rfl) ?_
        refine g_aload_n (q := 242) dX1_forcedWithin_241 rfl rfl ?_
        refine g_getI (q := 245) (kI := 7) fX1_39 (by first | assumption | exact S.at _ rfl) dX1_forcedWithin_242 rfl rfl ?_
        rw [e87, k7]
        refine g_iaload (q := 246) (by first | assumption | exact S.at _ rfl) (by omega) (by omega) (by omega) dX1_forcedWithin_245 rfl ?_
        refine g_ireturn dX1_forcedWithin_246 rfl ?_
        rw [← hPo]
        refine ⟨_, rfl, rfl, ?_, j2, W1.mv e77 eq e79 (by rw [e70, a70]), ⟨j4, ?_, ?_, ?_, ?_⟩, ?_, ?_, ?_⟩
        · intro x hx hxq
          rw [j1 x (fun z => hx (by simp at z ⊢; omega)), b12 x (fun e => hx (by rw [e]; decide))]
          exact fq x hx hxq
        · rw [e87, e70, k6]
          have := g2
          omega
        · rw [e87, k7]
          exact ⟨f0, f1⟩
        · rw [e87, k8]
          omega
        · intro _
          rw [e87, k7, k8]
          exact ⟨Rq c1 q cnt, lv, Rf, Rr, Rc, j5, hend⟩
        · rw [e87, e70, k6]
        · rw [e87, k7]
        · rw [e87, k8]
      have stopE : ∀ (lv : Nat) (c : mbCt), JG c2 b β mk tone (Rq c1 q cnt) lv 0 c → c 88 from' = -1 → ∀ m, ¬ gP β mk tone true m from' := by
        intro lv c hJ h1 m hg
        rcases hJ.2.2.2.2.2.2 with ⟨-, hs⟩ | ⟨h, -⟩
        · have h2 := hs m true from' Rf hg
          rcases hJ.2.2.2.2.1 true from' Rf with ⟨-, h3⟩ | ⟨i, -, i2, -⟩
          · exact h3 h2
          · have i2' : c 88 from' = i := i2
            omega
        · cases h
      induction k with
      | zero =>
        intro lv more c o5 hk hJ
        have hm : more = 0 ∨ more = 1 := by
          rcases hJ.2.2.2.2.2.2 with h | h
          · exact Or.inl h.1
          · exact Or.inr h.1
        refine g_iload (q := 197) dX1_forcedWithin_195 rfl rfl ?_
        refine g_sipush (q := 200) dX1_forcedWithin_197 (by decide +kernel) rfl ?_
        refine g_icmp_gt (q := 203) (tg := 237) dX1_forcedWithin_200 (by decide) rfl (fun c_200 => ?_) (fun c_200 => ?_)
        · refine endG lv more c o5 hJ ?_
          intro h1
          rcases hJ.2.2.2.2.2.2 with ⟨h, -⟩ | ⟨-, h⟩
          · subst h
            exact stopE lv c hJ h1
          · have := lv_pig (F := fun f => c (tG f)) Rr Rf h h1
            omega
        · exact absurd c_200 (by unfold w32; omega)
      | succ k ih =>
        intro lv more c o5 hk hJ
        obtain ⟨j1, j2, j3, j4, j5, j6, j7⟩ := id hJ
        have Lc := j2.L
        have e87 : c 87 = c0 87 := by rw [j1 87 (by decide), b12 87 (by decide), a87]
        have e77 : c 77 = c1 77 := by rw [j1 77 (by decide), b12 77 (by decide)]
        have eq : c q = c1 q := by rw [j1 q qf, b12 q (fun e => qne 90 (by decide) (by decide) e.symm)]
        have r88 : -1 ≤ c 88 from' ∧ c 88 from' ≤ 1400 := j4 true from' f0 f1
        refine g_iload (q := 197) dX1_forcedWithin_195 rfl rfl ?_
        refine g_sipush (q := 200) dX1_forcedWithin_197 (by decide +kernel) rfl ?_
        refine g_icmp_gt (q := 203) (tg := 237) dX1_forcedWithin_200 (by decide) rfl (fun c_200 => ?_) (fun c_200 => ?_)
        · exact absurd c_200 (by unfold w32; omega)
        · refine g_iload_n (q := 204) dX1_forcedWithin_203 rfl rfl ?_
          refine g_if_eq (q := 207) (tg := 237) dX1_forcedWithin_204 (by decide) rfl (fun c_204 => ?_) (fun c_204 => ?_)
          · have hm : more = 0 := by
              rcases j7 with h | h
              · exact h.1
              · rw [h.1] at c_204; exact absurd c_204 (by decide)
            subst hm
            exact endG lv 0 c o5 hJ (stopE lv c hJ)
          · have hm : more = 1 := by
              rcases j7 with h | h
              · rw [h.1] at c_204; exact absurd rfl c_204
              · exact h.1
            subst hm
            have hlev : ∀ i : Nat, 1 ≤ i → i ≤ lv → ∃ f st, Rq c1 q cnt st ∧ c (tG f) st = (i : Int) := by
              rcases j7 with h | h
              · cases h.1
              · exact h.2
            refine g_aload_n (q := 208) dX1_forcedWithin_207 rfl rfl ?_
            refine g_getA (q := 211) (kI := 2) fX1_9 (by first | assumption | exact S.at _ rfl) dX1_forcedWithin_208 rfl rfl (by first | assumption | exact L.at _ _ rfl | exact LK.at (by assumption) _ _ rfl | ((repeat first | rewrite [wr_na (by decide)] | rewrite [wr_nk (by decide)] | rewrite [wa_na (by decide)]); first | assumption | exact LK.at (by assumption) _ _ rfl) | exact rfl) ?_
            refine g_aload_n (q := 212) dX1_forcedWithin_211 rfl rfl ?_
            refine g_getI (q := 215) (kI := 7) fX1_39 (by first | assumption | exact S.at _ rfl) dX1_forcedWithin_212 rfl rfl ?_
            rw [e87, k7]
            refine g_iaload (q := 216) (by first | assumption | exact S.at _ rfl) (by omega) (by omega) (by omega) dX1_forcedWithin_215 rfl ?_
            refine g_iconst (q := 217) dX1_forcedWithin_216 rfl ?_
            refine g_icmp_ne (q := 220) (tg := 237) dX1_forcedWithin_217 (by decide) rfl (fun c_217 => ?_) (fun c_217 => ?_)
            · refine endG lv 1 c o5 hJ (fun h => ?_)
              rw [h] at c_217
              exact absurd rfl c_217
            · have h1 : c 88 from' = -1 := by unfold w32 at c_217; omega
              refine g_aload_n (q := 221) dX1_forcedWithin_220 rfl rfl ?_
              refine g_callV (q := 224) lX1_70 mX1_turnToFresh nX1_turnToFresh rfl (c_turnToFresh (d + 3) sh c S j2 j3) (by first | assumption | exact S.at _ rfl) rfl rfl shLe.rf (rmOk.mk (by omega) (by first | exact shLe.rf | assumption)) (Nat.le_of_ble_eq_true rfl) dX1_forcedWithin_221 rfl rfl (kN fun c3 hp3 => ?_)
              obtain ⟨t1, t2, t3, t4⟩ := hp3
              have M3 : MV c3 b β mk := j2.big (j2.L.eb t1 rfl) (fun x hx => t1 x (by simp; omega))
              have L3 := M3.L
              have x77 : c3 77 = c1 77 := by rw [t1 77 (by decide), e77]
              have xq : c3 q = c1 q := by rw [t1 q (fun z => qf (by simp at z ⊢; omega)), eq]
              have xT : ∀ f, c3 (tG f) = c (tG f) := fun f => t1 _ (by cases f <;> decide)
              have hRq : Rq c3 q cnt = Rq c1 q cnt := by funext st; unfold Rq; rw [show ndQ c3 q = ndQ c1 q by funext j; unfold ndQ; rw [xq]]
              have exlt : ∀ f st, Rq c1 q cnt st → c (tG f) st ≠ ((lv + 1 : Nat) : Int) := by
                intro f st hr h
                rcases j5 f st hr with ⟨h2, -⟩ | ⟨i, i1, i2, -⟩ <;> omega
              have I3 : SI c3 b β mk (gP β mk tone) (Rq c3 q cnt) lv 0 c3 := by
                rw [hRq]
                refine ⟨eqBut.rf, M3, fun x x0 x1 => Or.inl (t3 x x0 x1), fun f => by rw [xT]; exact j4 f, fun f st hr => Or.inl (by rw [xT]; exact j5 f st hr), fun f st hr h => ?_, Or.inl ⟨rfl, fun f st hr => by rw [xT]; exact exlt f st hr⟩, fun _ _ _ _ => rfl⟩
                rw [xT] at h
                exact absurd h (exlt f st hr)
              have hqu : ∀ f st, Rq c3 q cnt st → c3 91 (st / 7) = 0 → ¬ gP β mk tone f lv st → ¬ gP β mk tone f (lv + 1) st := by
                intro f st hr h91 hno
                rw [hRq] at hr
                have hst := Rr st hr
                refine gW_quiet ?_ f hno
                intro f' x hx hg
                refine exA_low (j5 f' x (Rc st hr x hx)) ?_ hg (hP f')
                intro hv
                have hfr := j6 f' x (Rc st hr x hx) hv
                obtain ⟨k, hk, rfl⟩ := List.mem_map.mp hx
                have hkm := brL_mem.mp hk
                have hc3 := canB_3 (β := β) (mk := mk) (st := st) (k := k) (by have h := hkm.2; rw [msN_bit, decide_eq_true hkm.1, Bool.true_and] at h; exact h)
                have h4 := t4 (st / 7) ((k % 8 : Nat) : Int) (by omega) (by omega) (by omega) hc3.2 h91
                have htn := j2.tn c hst.1 hst.2 (s := ((k % 8 : Nat) : Int)) (by omega) hc3.2 ((k / 8 : Nat) : Int)
                have htu := j2.tu ((k % 8 : Nat) : Int) (st / 7) (by omega) (by rw [j2.n]; exact hc3.2) (by omega) (by omega)
                rw [show 100 * ((k % 8 : Nat) : Int) + st / 7 = ((k % 8 : Nat) : Int) * 100 + st / 7 by omega] at htn
                rw [← htn] at hfr
                have e7 : (c 74 (((k % 8 : Nat) : Int) * 100 + st / 7) + ((k / 8 : Nat) : Int)) / 7 = c 74 (((k % 8 : Nat) : Int) * 100 + st / 7) / 7 := by
                  rw [htu]
                  omega
                rw [e7, h4] at hfr
                cases hfr
              refine g_aload_n (q := 225) dX1_forcedWithin_224 rfl rfl ?_
              refine g_iload (q := 227) dX1_forcedWithin_225 rfl rfl ?_
              refine g_callV (q := 230) lX1_73 mX1_settleWithin nX1_settleWithin rfl (c_settleWithin d sh c3 (cnt := cnt) (lv := lv) S (by rw [x77]; exact u1) u2 sq w3.2 (by rw [x77]; exact v1) v2 (by rw [xq]; exact v3) (by omega) (by rw [hRq]; exact Rc) I3 t2 hqu) (by first | assumption | exact S.at _ rfl) rfl rfl shLe.rf (rmOk.mk (by omega) (by first | exact shLe.rf | assumption)) (Nat.le_of_ble_eq_true rfl) dX1_forcedWithin_227 rfl rfl (kI fun r c4 hp4 => ?_)
              obtain ⟨I4, E4⟩ := hp4
              rw [hRq] at I4 E4
              obtain ⟨i1, i2, i3, i4, i5, i6, i7, i8⟩ := I4
              refine s_istore_n_6_3 (q := 231) dX1_forcedWithin_230 rfl rfl rfl ?_
              refine s_iinc_6_4 (q := 234) dX1_forcedWithin_231 rfl rfl rfl ?_
              refine g_goto (q := 195) dX1_forcedWithin_234 (by decide) ?_
              have := ih (lv + 1) r c4 o5 (by omega) ⟨?_, i2, i3, i4, E4, i6, ?_⟩
              · rw [Int.natCast_succ (lv + 1)] at this
                exact this
              · intro x hx
                rw [i1 x (fun z => hx (by simp at z ⊢; omega)), t1 x (fun z => hx (by simp at z ⊢; omega))]
                exact j1 x hx
              · rcases i7 with ⟨a, h⟩ | ⟨a, h⟩
                · refine Or.inl ⟨a, ?_⟩
                  have low : ∀ f st, Rq c1 q cnt st → gP β mk tone f (lv + 1) st → gP β mk tone f lv st := by
                    intro f st hr hg
                    obtain ⟨l, hl, h2⟩ := exA_low (E4 f st hr) (h f st hr) hg (hP f)
                    rw [show lv = l by omega]
                    exact h2
                  intro m f st hr hg
                  exact hP f lv (lv + 1) st (by omega) (gW_stop Rc low m f st hr hg)
                · refine Or.inr ⟨a, ?_⟩
                  intro i i0 il
                  by_cases e : i = lv + 1
                  · subst e
                    exact h
                  · obtain ⟨f, st, hr, hv⟩ := hlev i i0 (by omega)
                    refine ⟨f, st, hr, ?_⟩
                    rw [i8 f st hr (by rw [xT, hv]; omega), xT, hv]
    -- the states at the start
    have init : ∀ (k i : Nat) (c : mbCt) (o4 o5 : Option gV), i + k = cnt → eqBut [68, 69, 72, 73, 75, 76, 88, 89, 90] c2 c → MV c b β mk → z01 (c 90) → (∀ f, rngG (c (tG f))) → (∀ f j, j < i → c (tG f) (ndQ c1 q j).1 = if enB β (ndQ c1 q j).1 tone = true then 0 else -1) → (∀ j, j < i → enB β (ndQ c1 q j).1 tone = true → c 90 ((ndQ c1 q j).1 / 7) = 1) → dropL o4 = o4 → G (mkK YX1_forcedWithin (d + 5) sh sh Po) 91 [some (.inr (.inr 87)), some (.inl from'), some (.inl tone), some (.inl i), o4, o5] [] sh c := by
      intro k
      induction k with
      | zero =>
        intro i c o4 o5 hi j1 j2 j3 j4 j5 j6 ho4
        have Lc := j2.L
        have e77 : c 77 = c1 77 := by rw [j1 77 (by decide), b12 77 (by decide)]
        refine g_iload_n (q := 92) dX1_forcedWithin_91 rfl rfl ?_
        refine g_aload_n (q := 93) dX1_forcedWithin_92 rfl rfl ?_
        refine g_getO (q := 96) (kI := 1) fX1_32 (by first | assumption | exact S.at _ rfl) dX1_forcedWithin_93 rfl rfl (by first | assumption | exact L.at _ _ rfl | exact LK.at (by assumption) _ _ rfl | ((repeat first | rewrite [wr_na (by decide)] | rewrite [wr_nk (by decide)] | rewrite [wa_na (by decide)]); first | assumption | exact LK.at (by assumption) _ _ rfl) | exact rfl) ?_
        refine g_getI (q := 99) (kI := 2) fX1_59 (by first | assumption | exact S.at _ rfl) dX1_forcedWithin_96 rfl rfl ?_
        rw [e77, v1]
        refine g_icmp_ge (q := 102) (tg := 190) dX1_forcedWithin_99 (by decide) rfl (fun c_99 => ?_) (fun c_99 => ?_)
        · refine g_iconst (q := 191) dX1_forcedWithin_190 rfl ?_
          refine s_istore_n_6_3 (q := 192) dX1_forcedWithin_191 rfl rfl rfl ?_
          refine g_iconst (q := 193) dX1_forcedWithin_192 rfl ?_
          refine s_istore_6_4 (q := 195) dX1_forcedWithin_193 rfl rfl rfl ?_
          refine main 1400 0 1 c o5 (by omega) ⟨j1.mono (by decide), j2, j3, j4, ?_, ?_, Or.inr ⟨rfl, fun i i0 i1 => by omega⟩⟩
          · rintro f st ⟨j, hj, rfl⟩
            have h5 := j5 f j (by omega)
            by_cases he : enB β (ndQ c1 q j).1 tone = true
            · rw [if_pos he] at h5
              exact Or.inr ⟨0, Nat.le_refl _, h5, he, fun i hi => by omega⟩
            · rw [if_neg he] at h5
              exact Or.inl ⟨h5, he⟩
          · rintro f st ⟨j, hj, rfl⟩ h
            have h5 := j5 f j (by omega)
            by_cases he : enB β (ndQ c1 q j).1 tone = true
            · exact j6 j (by omega) he
            · rw [if_neg he, h] at h5
              cases h5
        · exact absurd c_99 (by unfold w32; omega)
      | succ k ih =>
        intro i c o4 o5 hi j1 j2 j3 j4 j5 j6 ho4
        have Lc := j2.L
        have e77 : c 77 = c1 77 := by rw [j1 77 (by decide), b12 77 (by decide)]
        have e87 : c 87 = c0 87 := by rw [j1 87 (by decide), b12 87 (by decide), a87]
        have eq : c q = c1 q := by rw [j1 q (fun z => qf (by simp at z ⊢; omega)), b12 q (fun e => qne 90 (by decide) (by decide) e.symm)]
        have hci := v3 i (by omega)
        have hs : 0 ≤ qSt (c1 q i) ∧ qSt (c1 q i) < 700 := by unfold qSt; omega
        have hnd : (ndQ c1 q i).1 = qSt (c1 q i) := rfl
        refine g_iload_n (q := 92) dX1_forcedWithin_91 rfl rfl ?_
        refine g_aload_n (q := 93) dX1_forcedWithin_92 rfl rfl ?_
        refine g_getO (q := 96) (kI := 1) fX1_32 (by first | assumption | exact S.at _ rfl) dX1_forcedWithin_93 rfl rfl (by first | assumption | exact L.at _ _ rfl | exact LK.at (by assumption) _ _ rfl | ((repeat first | rewrite [wr_na (by decide)] | rewrite [wr_nk (by decide)] | rewrite [wa_na (by decide)]); first | assumption | exact LK.at (by assumption) _ _ rfl) | exact rfl) ?_
        refine g_getI (q := 99) (kI := 2) fX1_59 (by first | assumption | exact S.at _ rfl) dX1_forcedWithin_96 rfl rfl ?_
        rw [e77, v1]
        refine g_icmp_ge (q := 102) (tg := 190) dX1_forcedWithin_99 (by decide) rfl (fun c_99 => ?_) (fun c_99 => ?_)
        · exact absurd c_99 (by unfold w32; omega)
        · refine g_aload_n (q := 103) dX1_forcedWithin_102 rfl rfl ?_
          refine g_getO (q := 106) (kI := 1) fX1_32 (by first | assumption | exact S.at _ rfl) dX1_forcedWithin_103 rfl rfl (by first | assumption | exact L.at _ _ rfl | exact LK.at (by assumption) _ _ rfl | ((repeat first | rewrite [wr_na (by decide)] | rewrite [wr_nk (by decide)] | rewrite [wa_na (by decide)]); first | assumption | exact LK.at (by assumption) _ _ rfl) | exact rfl) ?_
          refine g_iload_n (q := 107) dX1_forcedWithin_106 rfl rfl ?_
          refine g_callV (q := 110) lX1_62 mX10_stateAt nX10_stateAt rfl (c_stateAt (d + 4) sh c S (by rw [e77]; exact u1) sq (by omega) (by omega) (by omega) (by rw [eq]; exact hci.1) (by rw [eq]; exact hci.2.1)) (by first | assumption | exact S.at _ rfl) rfl rfl shLe.rf (rmOk.mk (by omega) (by first | exact shLe.rf | assumption)) (Nat.le_of_ble_eq_true rfl) dX1_forcedWithin_107 rfl rfl (kI fun r c3 hp => ?_)
          obtain ⟨rfl, rfl⟩ := hp
          rw [eq]
          generalize qSt (c1 q i) = st at hs hnd
          have ed : (w32 st).tdiv (w32 7) = st / 7 := by rw [w32_id (by omega) (by omega), td_pos hs.1]; rfl
          refine s_istore_6_4 (q := 112) dX1_forcedWithin_110 rfl rfl rfl ?_
          refine g_aload_n (q := 113) dX1_forcedWithin_112 rfl rfl ?_
          refine g_getO (q := 116) (kI := 0) fX1_28 (by first | assumption | exact S.at _ rfl) dX1_forcedWithin_113 rfl rfl (by first | assumption | exact L.at _ _ rfl | exact LK.at (by assumption) _ _ rfl | ((repeat first | rewrite [wr_na (by decide)] | rewrite [wr_nk (by decide)] | rewrite [wa_na (by decide)]); first | assumption | exact LK.at (by assumption) _ _ rfl) | exact rfl) ?_
          refine g_iload (q := 118) dX1_forcedWithin_116 rfl rfl ?_
          refine g_aload_n (q := 119) dX1_forcedWithin_118 rfl rfl ?_
          refine g_getI (q := 122) (kI := 8) fX1_42 (by first | assumption | exact S.at _ rfl) dX1_forcedWithin_119 rfl rfl ?_
          rw [e87, k8]
          refine g_callV (q := 125) lX1_66 mX4_isEnd nX4_isEnd rfl (m_isEnd (d + 1) sh c3 S j2 hs.1 hs.2 t0 (by omega)) (by first | assumption | exact S.at _ rfl) rfl rfl shLe.rf (rmOk.mk (by omega) (by first | exact shLe.rf | assumption)) (Nat.le_of_ble_eq_true rfl) dX1_forcedWithin_122 rfl rfl (kI fun r c4 hp => ?_)
          obtain ⟨rfl, m4⟩ := hp
          have L4 := m4.2.L
          have y90 : c4 90 = c3 90 := m4.1 90 (by decide)
          have yT : ∀ f, c4 (tG f) = c3 (tG f) := fun f => m4.1 _ (tG_far f)
          have z90 := j3 (st / 7) (by omega) (by omega)
          -- behind the three writes
          have fin : ∀ (v w : Int), (v = if enB β st tone = true then 0 else -1) → (w = b01 (c3 90 (st / 7) = 1 ∨ enB β st tone = true)) → G (mkK YX1_forcedWithin (d + 5) sh sh Po) 184 [some (.inr (.inr 87)), some (.inl from'), some (.inl tone), some (.inl i), some (.inl st), some (.inl (b01 (enB β st tone = true)))] [] sh (wr (wr (wr c4 88 st v) 89 st v) 90 (st / 7) w) := by
            intro v w hv hw
            refine s_iinc_6_3 (q := 187) dX1_forcedWithin_184 rfl rfl rfl ?_
            refine g_goto (q := 91) dX1_forcedWithin_187 (by decide) ?_
            generalize hc5 : wr (wr (wr c4 88 st v) 89 st v) 90 (st / 7) w = c5
            have z5 : ∀ f x, c5 (tG f) x = if x = st then v else c3 (tG f) x := by
              intro f x
              rw [← yT f, ← hc5]
              cases f
              · show wr (wr (wr c4 88 st v) 89 st v) 90 (st / 7) w 89 x = if x = st then v else c4 89 x
                by_cases ex : x = st
                · rw [if_pos ex, ex, wr_na (by decide), wr_eq]
                · rw [if_neg ex, wr_na (by decide), wr_nk ex, wr_na (by decide)]
              · show wr (wr (wr c4 88 st v) 89 st v) 90 (st / 7) w 88 x = if x = st then v else c4 88 x
                by_cases ex : x = st
                · rw [if_pos ex, ex, wr_na (by decide), wr_na (by decide), wr_eq]
                · rw [if_neg ex, wr_na (by decide), wr_na (by decide), wr_nk ex]
            have z6 : ∀ x, c5 90 x = if x = st / 7 then w else c3 90 x := by
              intro x
              rw [← y90, ← hc5]
              by_cases ex : x = st / 7
              · rw [if_pos ex, ex, wr_eq]
              · rw [if_neg ex, wr_nk ex, wr_na (by decide), wr_na (by decide)]
            have M5 : MV c5 b β mk := by
              rw [← hc5]
              exact ((m4.2.x (a := 88) (by decide) (lkF_none rfl _) rfl).x (a := 89) (by decide) (lkF_none rfl _) rfl).x (a := 90) (by decide) (lkF_none rfl _) rfl
            have := ih (i + 1) c5 (some (.inl st)) (some (.inl (b01 (enB β st tone = true)))) (by omega) ?_ M5 ?_ ?_ ?_ ?_ rfl
            · rw [Int.natCast_succ] at this
              exact this
            · rw [← hc5]
              exact (((j1.tr (m4.1.mono (by decide))).wr (by decide)).wr (by decide)).wr (by decide)
            · intro x x0 x1
              rw [z6]
              split
              · rw [hw]; exact b01_in _
              · exact j3 x x0 x1
            · intro f x x0 x1
              rw [z5]
              split
              · rw [hv]; split <;> omega
              · exact j4 f x x0 x1
            · intro f j hj
              rw [z5]
              by_cases ex : (ndQ c1 q j).1 = st
              · rw [if_pos ex, ex]
                exact hv
              · rw [if_neg ex]
                by_cases e : j = i
                · subst e
                  exact absurd hnd ex
                · exact j5 f j (by omega)
            · intro j hj he
              rw [z6]
              by_cases ex : (ndQ c1 q j).1 / 7 = st / 7
              · rw [if_pos ex, hw]
                by_cases e : j = i
                · subst e
                  rw [hnd] at he
                  exact (b01_t (Or.inr he)).symm
                · have h6 := j6 j (by omega) he
                  rw [ex] at h6
                  exact (b01_t (Or.inl h6)).symm
              · rw [if_neg ex]
                by_cases e : j = i
                · subst e
                  exact absurd (by rw [hnd]) ex
                · exact j6 j (by omega) he
          have x90 : ∀ v, wr (wr c4 88 st v) 89 st v 90 (st / 7) = c3 90 (st / 7) := fun v => by rw [wr_na (by decide), wr_na (by decide), y90]
          by_cases hen : enB β st tone = true
          · have hb1 : b01 (enB β st tone = true) = 1 := (b01_t hen).symm
            have F := fin 0 (orI (c3 90 (st / 7)) 1) (by rw [if_pos hen]) (by rw [(and01 z90 (Or.inr rfl)).2, ← b01_t (Or.inr hen), ← b01_t (Or.inr rfl)])
            rw [hb1] at F
            rw [hb1]
            refine s_istore_6_5 (q := 127) dX1_forcedWithin_125 rfl rfl rfl ?_
            refine g_aload_n (q := 128) dX1_forcedWithin_127 rfl rfl ?_
            refine g_getA (q := 131) (kI := 2) fX1_9 (by first | assumption | exact S.at _ rfl) dX1_forcedWithin_128 rfl rfl (by first | assumption | exact L.at _ _ rfl | exact LK.at (by assumption) _ _ rfl | ((repeat first | rewrite [wr_na (by decide)] | rewrite [wr_nk (by decide)] | rewrite [wa_na (by decide)]); first | assumption | exact LK.at (by assumption) _ _ rfl) | exact rfl) ?_
            refine g_iload (q := 133) dX1_forcedWithin_131 rfl rfl ?_
            refine g_iload (q := 135) dX1_forcedWithin_133 rfl rfl ?_
            refine g_if_eq (q := 138) (tg := 142) dX1_forcedWithin_135 (by decide) rfl (fun c_135 => ?_) (fun c_135 => ?_)
            · exact absurd c_135 (by decide)
            · refine g_iconst (q := 139) dX1_forcedWithin_138 rfl ?_
              refine g_goto (q := 143) dX1_forcedWithin_139 (by decide) ?_
              refine g_iastore (q := 144) (by first | assumption | exact S.at _ rfl) (by omega) (by omega) (by omega) dX1_forcedWithin_143 rfl ?_
              refine g_aload_n (q := 145) dX1_forcedWithin_144 rfl rfl ?_
              refine g_getA (q := 148) (kI := 3) fX1_15 (by first | assumption | exact S.at _ rfl) dX1_forcedWithin_145 rfl rfl (by first | assumption | exact L.at _ _ rfl | exact LK.at (by assumption) _ _ rfl | ((repeat first | rewrite [wr_na (by decide)] | rewrite [wr_nk (by decide)] | rewrite [wa_na (by decide)]); first | assumption | exact LK.at (by assumption) _ _ rfl) | exact rfl) ?_
              refine g_iload (q := 150) dX1_forcedWithin_148 rfl rfl ?_
              refine g_iload (q := 152) dX1_forcedWithin_150 rfl rfl ?_
              refine g_if_eq (q := 155) (tg := 159) dX1_forcedWithin_152 (by decide) rfl (fun c_152 => ?_) (fun c_152 => ?_)
              · exact absurd c_152 (by decide)
              · refine g_iconst (q := 156) dX1_forcedWithin_155 rfl ?_
                refine g_goto (q := 160) dX1_forcedWithin_156 (by decide) ?_
                refine g_iastore (q := 161) (by first | assumption | exact S.at _ rfl) (by omega) (by omega) (by omega) dX1_forcedWithin_160 rfl ?_
                refine g_aload_n (q := 162) dX1_forcedWithin_161 rfl rfl ?_
                refine g_getA (q := 165) (kI := 4) fX1_18 (by first | assumption | exact S.at _ rfl) dX1_forcedWithin_162 rfl rfl (by first | assumption | exact L.at _ _ rfl | exact LK.at (by assumption) _ _ rfl | ((repeat first | rewrite [wr_na (by decide)] | rewrite [wr_nk (by decide)] | rewrite [wa_na (by decide)]); first | assumption | exact LK.at (by assumption) _ _ rfl) | exact rfl) ?_
                refine g_iload (q := 167) dX1_forcedWithin_165 rfl rfl ?_
                refine g_bipush (q := 169) dX1_forcedWithin_167 (by decide +kernel) rfl ?_
                refine g_idiv (q := 170) dX1_forcedWithin_169 (by decide) rfl ?_
                rw [ed]
                refine g_dup2 (q := 171) dX1_forcedWithin_170 rfl rfl rfl ?_
                refine g_iaload (q := 172) (by first | assumption | exact S.at _ rfl) (by omega) (by omega) (by omega) dX1_forcedWithin_171 rfl ?_
                rw [x90]
                refine g_iload (q := 174) dX1_forcedWithin_172 rfl rfl ?_
                refine g_if_eq (q := 177) (tg := 181) dX1_forcedWithin_174 (by decide) rfl (fun c_174 => ?_) (fun c_174 => ?_)
                · exact absurd c_174 (by decide)
                · refine g_iconst (q := 178) dX1_forcedWithin_177 rfl ?_
                  refine g_goto (q := 182) dX1_forcedWithin_178 (by decide) ?_
                  refine g_ior (q := 183) dX1_forcedWithin_182 rfl ?_
                  refine g_iastore (q := 184) (by first | assumption | exact S.at _ rfl) (by omega) (by omega) (by omega) dX1_forcedWithin_183 rfl ?_
                  exact F
          · have hb0 : b01 (enB β st tone = true) = 0 := (b01_f hen).symm
            have F := fin (-1) (orI (c3 90 (st / 7)) 0) (by rw [if_neg hen]) (by
              rw [(and01 z90 (Or.inl rfl)).2]
              by_cases h : c3 90 (st / 7) = 1
              · rw [← b01_t (Or.inl h), ← b01_t (Or.inl h)]
              · rw [← b01_f (by rintro (z | z); exact h z; cases z), ← b01_f (by rintro (z | z); exact h z; exact hen z)])
            rw [hb0] at F
            rw [hb0]
            refine s_istore_6_5 (q := 127) dX1_forcedWithin_125 rfl rfl rfl ?_
            refine g_aload_n (q := 128) dX1_forcedWithin_127 rfl rfl ?_
            refine g_getA (q := 131) (kI := 2) fX1_9 (by first | assumption | exact S.at _ rfl) dX1_forcedWithin_128 rfl rfl (by first | assumption | exact L.at _ _ rfl | exact LK.at (by assumption) _ _ rfl | ((repeat first | rewrite [wr_na (by decide)] | rewrite [wr_nk (by decide)] | rewrite [wa_na (by decide)]); first | assumption | exact LK.at (by assumption) _ _ rfl) | exact rfl) ?_
            refine g_iload (q := 133) dX1_forcedWithin_131 rfl rfl ?_
            refine g_iload (q := 135) dX1_forcedWithin_133 rfl rfl ?_
            refine g_if_eq (q := 138) (tg := 142) dX1_forcedWithin_135 (by decide) rfl (fun c_135 => ?_) (fun c_135 => ?_)
            · refine g_iconst (q := 143) dX1_forcedWithin_142 rfl ?_
              refine g_iastore (q := 144) (by first | assumption | exact S.at _ rfl) (by omega) (by omega) (by omega) dX1_forcedWithin_143 rfl ?_
              refine g_aload_n (q := 145) dX1_forcedWithin_144 rfl rfl ?_
              refine g_getA (q := 148) (kI := 3) fX1_15 (by first | assumption | exact S.at _ rfl) dX1_forcedWithin_145 rfl rfl (by first | assumption | exact L.at _ _ rfl | exact LK.at (by assumption) _ _ rfl | ((repeat first | rewrite [wr_na (by decide)] | rewrite [wr_nk (by decide)] | rewrite [wa_na (by decide)]); first | assumption | exact LK.at (by assumption) _ _ rfl) | exact rfl) ?_
              refine g_iload (q := 150) dX1_forcedWithin_148 rfl rfl ?_
              refine g_iload (q := 152) dX1_forcedWithin_150 rfl rfl ?_
              refine g_if_eq (q := 155) (tg := 159) dX1_forcedWithin_152 (by decide) rfl (fun c_152 => ?_) (fun c_152 => ?_)
              · refine g_iconst (q := 160) dX1_forcedWithin_159 rfl ?_
                refine g_iastore (q := 161) (by first | assumption | exact S.at _ rfl) (by omega) (by omega) (by omega) dX1_forcedWithin_160 rfl ?_
                refine g_aload_n (q := 162) dX1_forcedWithin_161 rfl rfl ?_
                refine g_getA (q := 165) (kI := 4) fX1_18 (by first | assumption | exact S.at _ rfl) dX1_forcedWithin_162 rfl rfl (by first | assumption | exact L.at _ _ rfl | exact LK.at (by assumption) _ _ rfl | ((repeat first | rewrite [wr_na (by decide)] | rewrite [wr_nk (by decide)] | rewrite [wa_na (by decide)]); first | assumption | exact LK.at (by assumption) _ _ rfl) | exact rfl) ?_
                refine g_iload (q := 167) dX1_forcedWithin_165 rfl rfl ?_
                refine g_bipush (q := 169) dX1_forcedWithin_167 (by decide +kernel) rfl ?_
                refine g_idiv (q := 170) dX1_forcedWithin_169 (by decide) rfl ?_
                rw [ed]
                refine g_dup2 (q := 171) dX1_forcedWithin_170 rfl rfl rfl ?_
                refine g_iaload (q := 172) (by first | assumption | exact S.at _ rfl) (by omega) (by omega) (by omega) dX1_forcedWithin_171 rfl ?_
                rw [x90]
                refine g_iload (q := 174) dX1_forcedWithin_172 rfl rfl ?_
                refine g_if_eq (q := 177) (tg := 181) dX1_forcedWithin_174 (by decide) rfl (fun c_174 => ?_) (fun c_174 => ?_)
                · refine g_iconst (q := 182) dX1_forcedWithin_181 rfl ?_
                  refine g_ior (q := 183) dX1_forcedWithin_182 rfl ?_
                  refine g_iastore (q := 184) (by first | assumption | exact S.at _ rfl) (by omega) (by omega) (by omega) dX1_forcedWithin_183 rfl ?_
                  exact F
                · exact absurd rfl c_174
              · exact absurd rfl c_152
            · exact absurd rfl c_135
    exact init cnt 0 c2 none none (by omega) eqBut.rf M2 (fun x x0 x1 => Or.inl (b90 x x0 x1)) (fun f => by rw [b12 _ (tG_ne f), p1 _ (by cases f <;> decide) (by cases f <;> exact qne _ (by decide) (by decide)), o0 _ (by cases f <;> decide)]; exact g1 f) (fun f j hj => by omega) (fun j hj => by omega) rfl
  refine Mt.of rfl (Nat.le_of_ble_eq_true rfl) ?_
  show G _ 0 [some (.inr (.inr 87)), some (.inl from'), some (.inl tone), none, none, none] [] sh ct
  refine g_aload_n (q := 1) dX1_forcedWithin_0 rfl rfl ?_
  refine g_getI (q := 4) (kI := 6) fX1_24 (by first | assumption | exact S.at _ rfl) dX1_forcedWithin_1 rfl rfl ?_
  refine g_aload_n (q := 5) dX1_forcedWithin_4 rfl rfl ?_
  refine g_getO (q := 8) (kI := 0) fX1_28 (by first | assumption | exact S.at _ rfl) dX1_forcedWithin_5 rfl rfl (by first | assumption | exact L.at _ _ rfl | exact LK.at (by assumption) _ _ rfl | ((repeat first | rewrite [wr_na (by decide)] | rewrite [wr_nk (by decide)] | rewrite [wa_na (by decide)]); first | assumption | exact LK.at (by assumption) _ _ rfl) | exact rfl) ?_
  refine g_getI (q := 11) (kI := 7) fX1_36 (by first | assumption | exact S.at _ rfl) dX1_forcedWithin_8 rfl rfl ?_
  refine g_icmp_ne (q := 14) (tg := 40) dX1_forcedWithin_11 (by decide) rfl (fun c_11 => ?_) (fun c_11 => ?_)
  · exact fresh
  · have h6 : ct 87 6 = ct 70 7 := by have := w9; unfold w32 at c_11; omega
    refine g_aload_n (q := 15) dX1_forcedWithin_14 rfl rfl ?_
    refine g_getI (q := 18) (kI := 7) fX1_39 (by first | assumption | exact S.at _ rfl) dX1_forcedWithin_15 rfl rfl ?_
    refine g_iload_n (q := 19) dX1_forcedWithin_18 rfl rfl ?_
    refine g_icmp_ne (q := 22) (tg := 40) dX1_forcedWithin_19 (by decide) rfl (fun c_19 => ?_) (fun c_19 => ?_)
    · exact fresh
    · have h7 : ct 87 7 = from' := by unfold w32 at c_19; omega
      refine g_aload_n (q := 23) dX1_forcedWithin_22 rfl rfl ?_
      refine g_getI (q := 26) (kI := 8) fX1_42 (by first | assumption | exact S.at _ rfl) dX1_forcedWithin_23 rfl rfl ?_
      refine g_iload_n (q := 27) dX1_forcedWithin_26 rfl rfl ?_
      refine g_icmp_ne (q := 30) (tg := 40) dX1_forcedWithin_27 (by decide) rfl (fun c_27 => ?_) (fun c_27 => ?_)
      · exact fresh
      · have h8 : ct 87 8 = tone := by unfold w32 at c_27; omega
        refine g_aload_n (q := 31) dX1_forcedWithin_30 rfl rfl ?_
        refine g_getA (q := 34) (kI := 2) fX1_9 (by first | assumption | exact S.at _ rfl) dX1_forcedWithin_31 rfl rfl (by first | assumption | exact L.at _ _ rfl | exact LK.at (by assumption) _ _ rfl | ((repeat first | rewrite [wr_na (by decide)] | rewrite [wr_nk (by decide)] | rewrite [wa_na (by decide)]); first | assumption | exact LK.at (by assumption) _ _ rfl) | exact rfl) ?_
        refine g_aload_n (q := 35) dX1_forcedWithin_34 rfl rfl ?_
        refine g_getI (q := 38) (kI := 7) fX1_39 (by first | assumption | exact S.at _ rfl) dX1_forcedWithin_35 rfl rfl ?_
        rw [h7]
        refine g_iaload (q := 39) (by first | assumption | exact S.at _ rfl) (by omega) (by omega) (by omega) dX1_forcedWithin_38 rfl ?_
        refine g_ireturn dX1_forcedWithin_39 rfl ?_
        rw [← hPo]
        exact ⟨_, rfl, rfl, eqBq.rf, MM, W, hG, h6, h7, h8⟩
end
