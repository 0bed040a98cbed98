/-! Ways: spread -/
def spN (w : Int) (sp m : Nat) : Nat := if w = 0 then 0 else sp ||| 2 ^ m
def scN (β : Bk) (w : Int) (x : Int × Int) (i : Nat) : Nat × (Int × Int) := (i, (nxB β x.1 (i / 8 : Nat) (i % 8 : Nat), (spN w x.2.toNat (i / 8) : Nat)))
/-- what follows a state and those who spoke, by the minutes U, no hotter than cap -/
def scK (β : Bk) (mk : Int → Int) (U : Nat) (cap w : Int) (x : Int × Int) (k : Nat) : List (Nat × (Int × Int)) := ((brL (msN β mk x.1 &&& U) k).map (scN β w x)).filter (fun q => coolB cap q.2.1)
def scW (β : Bk) (mk : Int → Int) (U : Nat) (cap w : Int) (x : Int × Int) : List (Nat × (Int × Int)) := scK β mk U cap w x 48
theorem scK_f {β : Bk} {mk : Int → Int} {U : Nat} {cap w : Int} {x : Int × Int} {k : Nat} (h : (msN β mk x.1 &&& U).testBit k = false) : scK β mk U cap w x (k + 1) = scK β mk U cap w x k := by unfold scK; rw [brL_f h]
theorem scK_n {β : Bk} {mk : Int → Int} {U : Nat} {cap w : Int} {x : Int × Int} {k : Nat} (h : (msN β mk x.1 &&& U).testBit k = true) (hc : coolB cap (nxB β x.1 (k / 8 : Nat) (k % 8 : Nat)) = false) : scK β mk U cap w x (k + 1) = scK β mk U cap w x k := by
  unfold scK
  rw [brL_t h, List.map_append, List.filter_append, List.map_singleton, List.filter_cons_of_neg (by show ¬ coolB cap (nxB β x.1 (k / 8 : Nat) (k % 8 : Nat)) = true; rw [hc]; decide), List.filter_nil, List.append_nil]
theorem scK_t {β : Bk} {mk : Int → Int} {U : Nat} {cap w : Int} {x : Int × Int} {k : Nat} (h : (msN β mk x.1 &&& U).testBit k = true) (hc : coolB cap (nxB β x.1 (k / 8 : Nat) (k % 8 : Nat)) = true) : scK β mk U cap w x (k + 1) = scK β mk U cap w x k ++ [scN β w x k] := by
  unfold scK
  rw [brL_t h, List.map_append, List.filter_append, List.map_singleton, List.filter_cons_of_pos (by show coolB cap (nxB β x.1 (k / 8 : Nat) (k % 8 : Nat)) = true; rw [hc]), List.filter_nil]
/-- what stands while a node's minutes are gone through -/
def SP (ct : mbCt) (b : Int) (β : Bk) (mk : Int → Int) (q : Int) (N : Nat) (sc : Int × Int → List (Nat × (Int × Int))) (s0 : Int × Int) (ok : Int × Int → Prop) (i : Nat) (l : List (Nat × (Int × Int))) (n : Nat) (c : mbCt) : Prop := eqBq [68, 69, 72, 73, 75, 76, 77, 79] q ct c ∧ MV c b β mk ∧ (∀ k, k ≠ 2 → c 77 k = ct 77 k) ∧ QI c q N n ∧ BF sc s0 (ndQ c q) (prQ c q) n i l ∧ (∀ j, j < n → ok (ndQ c q j)) ∧ i < n ∧ ∀ j : Nat, j ≤ i → c q j = ct q j
theorem MV.q {ct c : mbCt} {b : Int} {β : Bk} {mk : Int → Int} {q : Int} (h : MV ct b β mk) (hq : qcN q) (e : eqBq [77, 79] q ct c) (l77 : ∀ k v, lkF 77 k = some v → c 77 k = v) : MV c b β mk := by
  have qf : ∀ x, x ≠ q → x ≠ 77 → x ≠ 79 → c x = ct x := fun x h1 h2 h3 => e x (by simp [h2, h3]) h1
  have q70 : ∀ x : Int, x < 78 → x ≠ q := fun x hx => by rcases hq with h | h <;> omega
  have bb : b = 2 ∨ b = 7 := h.hb
  have e0 : c b = ct b := qf b (q70 b (by omega)) (by omega) (by omega)
  have e2 : c (b + 2) = ct (b + 2) := qf _ (q70 _ (by omega)) (by omega) (by omega)
  have e3 : c (b + 3) = ct (b + 3) := qf _ (q70 _ (by omega)) (by omega) (by omega)
  have e4 : c (b + 4) = ct (b + 4) := qf _ (q70 _ (by omega)) (by omega) (by omega)
  have e69 : c 69 = ct 69 := qf _ (q70 _ (by omega)) (by omega) (by omega)
  have e70 : c 70 = ct 70 := qf _ (q70 _ (by omega)) (by omega) (by omega)
  have e71 : c 71 = ct 71 := qf _ (q70 _ (by omega)) (by omega) (by omega)
  have e72 : c 72 = ct 72 := qf _ (q70 _ (by omega)) (by omega) (by omega)
  have e73 : c 73 = ct 73 := qf _ (q70 _ (by omega)) (by omega) (by omega)
  have e74 : c 74 = ct 74 := qf _ (q70 _ (by omega)) (by omega) (by omega)
  have hL : LK c := by
    intro a k v hv
    by_cases h77 : a = 77
    · subst h77
      exact l77 k v hv
    · by_cases h79 : a = 79
      · subst h79
        rw [lkF_none rfl] at hv
        cases hv
      · by_cases hqa : a = q
        · have h2 : lkF a k = none := by
            subst hqa
            rcases hq with rfl | h1
            · exact lkF_none rfl k
            · apply lkF_none
              have : lkT.length ≤ a.toNat := by
                have : lkT.length = 114 := rfl
                omega
              rw [List.getElem?_eq_none this]
              rfl
          rw [h2] at hv
          cases hv
        · rw [qf a hqa h77 h79]
          exact h.L a k v hv
  refine ⟨⟨hL, h.hb, by rw [e70]; exact h.h0⟩, ⟨bkWf_eq e0 e4 h.wf, by rw [e69]; exact h.ask⟩, ⟨mvMin_eq e0 e4 e71 e72 h.mn, mvCl_eq e0 e4 e73 h.cl, ?_⟩, ⟨by rw [e70]; exact h.la.1, ?_⟩, by rw [e0]; exact h.rg, by rw [e71]; exact h.mr, by rw [bkOf_eq e0 e2 e3 e4]; exact h.bk, by rw [e71]; exact h.mks⟩
  · have t := h.tu
    unfold mvTurn at *
    rw [e0, e2, e3, e74]
    exact t
  · have t := h.la.2
    unfold noLast at *
    rw [e70, e0, e4]
    exact t
/-- cells that are none of Moves' -/
theorem MV.far {ct c : mbCt} {b : Int} {β : Bk} {mk : Int → Int} (h : MV ct b β mk) {A : List Int} (e : eqBut A ct c) (hA : (A.all fun a => decide (78 ≤ a) && ((lkT[a.toNat]?).getD []).isEmpty) = true) : MV c b β mk := by
  have hA2 := List.all_eq_true.mp hA
  have qf : ∀ x : Int, x < 78 → c x = ct x := fun x hx => e x (fun hm => by
    have := hA2 x hm
    simp only [Bool.and_eq_true, decide_eq_true_eq] at this
    omega)
  have bb : b = 2 ∨ b = 7 := h.hb
  have e0 : c b = ct b := qf b (by omega)
  have e2 : c (b + 2) = ct (b + 2) := qf _ (by omega)
  have e3 : c (b + 3) = ct (b + 3) := qf _ (by omega)
  have e4 : c (b + 4) = ct (b + 4) := qf _ (by omega)
  have e69 : c 69 = ct 69 := qf _ (by omega)
  have e70 : c 70 = ct 70 := qf _ (by omega)
  have e71 : c 71 = ct 71 := qf _ (by omega)
  have e72 : c 72 = ct 72 := qf _ (by omega)
  have e73 : c 73 = ct 73 := qf _ (by omega)
  have e74 : c 74 = ct 74 := qf _ (by omega)
  have hL : LK c := h.L.eb e (List.all_eq_true.mpr fun a ha => by
    have := hA2 a ha
    simp only [Bool.and_eq_true] at this
    exact this.2)
  refine ⟨⟨hL, h.hb, by rw [e70]; exact h.h0⟩, ⟨bkWf_eq e0 e4 h.wf, by rw [e69]; exact h.ask⟩, ⟨mvMin_eq e0 e4 e71 e72 h.mn, mvCl_eq e0 e4 e73 h.cl, ?_⟩, ⟨by rw [e70]; exact h.la.1, ?_⟩, by rw [e0]; exact h.rg, by rw [e71]; exact h.mr, by rw [bkOf_eq e0 e2 e3 e4]; exact h.bk, by rw [e71]; exact h.mks⟩
  · have t := h.tu
    unfold mvTurn at *
    rw [e0, e2, e3, e74]
    exact t
  · have t := h.la.2
    unfold noLast at *
    rw [e70, e0, e4]
    exact t
theorem lk77 {ct c : mbCt} (L : LK ct) (h : ∀ k, k ≠ 2 → c 77 k = ct 77 k) : ∀ k v, lkF 77 k = some v → c 77 k = v := by
  intro k v hv
  by_cases h2 : k = 2
  · subst h2
    cases hv
  · rw [h k h2]
    exact L 77 k v hv
/-- the room of the queue holds all that can be reached -/
def capOk (ok : Int × Int → Prop) (N : Nat) : Prop := ∀ (n : Nat) (nd : Nat → Int × Int), (∀ j k, j < n → k < n → nd j = nd k → j = k) → (∀ j, j < n → ok (nd j)) → n ≤ N
theorem nd_cong {c c2 : mbCt} {q : Int} {j : Nat} (h : c2 q j = c q j) : ndQ c2 q j = ndQ c q j ∧ prQ c2 q j = prQ c q j := by
  unfold ndQ prQ
  rw [h]
  exact ⟨rfl, rfl⟩
section
variable (d : Nat) (sh : mbSh) (ct : mbCt)
theorem c_spread {q b : Int} {β : Bk} {mk : Int → Int} {N n i U : Nat} {cap w : Int} {s0 : Int × Int} {ok : Int × Int → Prop} (S : SH sh) (M : MV ct b β mk) (hqn : qcN q) (sq : shA sh q = some (20, N)) (hN : N ≤ 19201) (hQ : QI ct q N n) (hi : i < n) (hcap : ct 77 10 = cap) (hc0 : 0 ≤ cap) (hc1 : cap ≤ 9) (hw : ct 77 11 = w) (hw0 : 0 ≤ w) (hw1 : w < 64) (hU : (ct 77 9 % 18446744073709551616).toNat = U) (B : BF (scW β mk U cap w) s0 (ndQ ct q) (prQ ct q) n i []) (hok : ∀ j, j < n → ok (ndQ ct q j)) (hst : ∀ x, ok x → ∀ p ∈ scW β mk U cap w x, ok p.2) (hcp : capOk ok N) : Mt YX10_spread (d + 3) [.inr (.inr 77), .inl i] sh sh ct (pN fun c => ∃ n2, SP ct b β mk q N (scW β mk U cap w) s0 ok i (scW β mk U cap w (ndQ ct q i)) n2 c) := by
  have q0 := hQ
  obtain ⟨q1, q2, q3, q4, q5⟩ := q0
  have L := M.L
  have hci := q4 i hi
  have qn : ∀ x : Int, x < 78 → x ≠ q := fun x hx => by rcases hqn with h | h <;> omega
  have s74 : shA sh 74 = some (20, 800) := S.at _ rfl
  generalize hP : (pN fun c => ∃ n2, SP ct b β mk q N (scW β mk U cap w) s0 ok i (scW β mk U cap w (ndQ ct q i)) n2 c) = Po
  generalize hx : ndQ ct q i = x
  have hx1 : x.1 = qSt (ct q i) := by rw [← hx]; rfl
  have hx2 : x.2 = qSp (ct q i) := by rw [← hx]; rfl
  have x0 : 0 ≤ x.1 ∧ x.1 < 700 := by rw [hx1]; unfold qSt; omega
  have x2 : 0 ≤ x.2 ∧ x.2 < 64 := by rw [hx2]; unfold qSp; omega
  generalize hZ : msN β mk x.1 &&& U = Z
  have hZl : Z < 281474976710656 := by
    have h1 := msN_lt β mk x.1
    have h2 : Z ≤ msN β mk x.1 := by rw [← hZ]; exact Nat.and_le_left
    omega
  have hZs : ∀ k, Z.testBit k = true → k < 48 ∧ ((k / 8 : Nat) : Int) < β.n 2 ∧ ((k % 8 : Nat) : Int) < β.n 3 := by
    intro k hk
    rw [← hZ, Nat.testBit_and, msN_bit] at hk
    simp only [Bool.and_eq_true, decide_eq_true_eq] at hk
    have h2 := hk.1.2
    unfold canB at h2
    simp only [Bool.and_eq_true, decide_eq_true_eq] at h2
    exact ⟨hk.1.1, h2.1.1, h2.1.2⟩
  have outer : ∀ (k m n2 : Nat) (c : mbCt) (o7 o8 o9 : Option gV), m + k = 6 → SP ct b β mk q N (scW β mk U cap w) s0 ok i (scK β mk U cap w x (8 * m)) n2 c → G (mkK YX10_spread (d + 3) sh sh Po) 30 [some (.inr (.inr 77)), some (.inl i), some (.inl x.1), some (.inl x.2), some (.inr (.inl Z)), none, some (.inl m), o7, o8, o9] [] sh c := by
    intro k
    induction k with
    | zero =>
      intro m n2 c o7 o8 o9 hm hc
      have e : m = 6 := by omega
      subst e
      refine g_iload (q := 32) dX10_spread_30 rfl rfl ?_
      refine g_bipush (q := 34) dX10_spread_32 (by decide +kernel) rfl ?_
      refine g_icmp_ge (q := 37) (tg := 121) dX10_spread_34 (by decide) rfl (fun c_34 => ?_) (fun c_34 => ?_)
      · refine g_return dX10_spread_121 rfl ?_
        rw [← hP]
        exact ⟨rfl, n2, by rw [hx]; exact hc⟩
      · exact absurd c_34 (by unfold w32; omega)
    | succ k ih =>
      intro m n2 c o7 o8 o9 hm hc
      generalize hsp : spN w x.2.toNat m = sp
      have hspl : sp < 64 := by
        rw [← hsp]
        unfold spN
        split
        · omega
        · have h6 : 2 ^ m < 2 ^ 6 := Nat.pow_lt_pow_right (by decide) (by omega)
          have := Nat.or_lt_two_pow (x := x.2.toNat) (y := 2 ^ m) (n := 6) (by omega) (by omega)
          omega
      have inner : ∀ (k2 s n2 : Nat) (c : mbCt), s + k2 = 8 → SP ct b β mk q N (scW β mk U cap w) s0 ok i (scK β mk U cap w x (8 * m + s)) n2 c → G (mkK YX10_spread (d + 3) sh sh Po) 71 [some (.inr (.inr 77)), some (.inl i), some (.inl x.1), some (.inl x.2), some (.inr (.inl Z)), none, some (.inl m), some (.inl sp), some (.inl (x.1 / 7 + 100 * s)), some (.inl (Z / 2 ^ (8 * m) % 256 / 2 ^ s : Nat))] [] sh c := by
        intro k2
        induction k2 with
        | zero =>
          intro s n2 c hs hc
          have e : s = 8 := by omega
          subst e
          have hz : Z / 2 ^ (8 * m) % 256 / 2 ^ 8 = 0 := Classical.byContradiction fun h => absurd (sy_lt h) (by decide)
          rw [hz]
          refine g_iload (q := 73) dX10_spread_71 rfl rfl ?_
          refine g_if_eq (q := 76) (tg := 115) dX10_spread_73 (by decide) rfl (fun c_73 => ?_) (fun c_73 => ?_)
          · refine s_iinc_10_6 (q := 118) dX10_spread_115 rfl rfl rfl ?_
            refine g_goto (q := 30) dX10_spread_118 (by decide) ?_
            exact ih (m + 1) n2 c _ _ _ (by omega) hc
          · exact absurd rfl c_73
        | succ k2 ih2 =>
          intro s n2 c hs hc
          have hle := sy_le Z m s
          have go : ∀ (n3 : Nat) (c3 : mbCt), SP ct b β mk q N (scW β mk U cap w) s0 ok i (scK β mk U cap w x (8 * m + s + 1)) n3 c3 → G (mkK YX10_spread (d + 3) sh sh Po) 103 [some (.inr (.inr 77)), some (.inl i), some (.inl x.1), some (.inl x.2), some (.inr (.inl Z)), none, some (.inl m), some (.inl sp), some (.inl (x.1 / 7 + 100 * s)), some (.inl (Z / 2 ^ (8 * m) % 256 / 2 ^ s : Nat))] [] sh c3 := by
            intro n3 c3 hc3
            refine s_iinc_10_8 (q := 106) dX10_spread_103 rfl rfl rfl ?_
            refine g_iload (q := 108) dX10_spread_106 rfl rfl ?_
            refine g_iconst (q := 109) dX10_spread_108 rfl ?_
            refine g_iushr (q := 110) dX10_spread_109 rfl ?_
            rw [sy_shr]
            refine s_istore_10_9 (q := 112) dX10_spread_110 rfl rfl rfl ?_
            refine g_goto (q := 71) dX10_spread_112 (by decide) ?_
            have h := ih2 (s + 1) n3 c3 (by omega) hc3
            rw [Int.natCast_succ s, show x.1 / 7 + 100 * ((s : Int) + 1) = x.1 / 7 + 100 * s + 100 by omega] at h
            exact h
          refine g_iload (q := 73) dX10_spread_71 rfl rfl ?_
          refine g_if_eq (q := 76) (tg := 115) dX10_spread_73 (by decide) rfl (fun c_73 => ?_) (fun c_73 => ?_)
          · have hz : Z / 2 ^ (8 * m) % 256 / 2 ^ s = 0 := by
              generalize Z / 2 ^ (8 * m) % 256 / 2 ^ s = y at hle c_73
              unfold w32 at c_73
              omega
            have e : scK β mk U cap w x (8 * m + s) = scK β mk U cap w x (8 * (m + 1)) := by
              unfold scK
              rw [hZ, show 8 * (m + 1) = 8 * m + s + (8 - s) by omega]
              rw [brL_pad (8 - s) fun i i1 i2 => ?_]
              have := sy_0 hz (i - 8 * m) (by omega) (by omega)
              rw [show 8 * m + (i - 8 * m) = i by omega] at this
              exact this
            rw [e] at hc
            refine s_iinc_10_6 (q := 118) dX10_spread_115 rfl rfl rfl ?_
            refine g_goto (q := 30) dX10_spread_118 (by decide) ?_
            exact ih (m + 1) n2 c _ _ _ (by omega) hc
          · refine g_iload (q := 78) dX10_spread_76 rfl rfl ?_
            refine g_iconst (q := 79) dX10_spread_78 rfl ?_
            refine g_iand (q := 80) dX10_spread_79 rfl ?_
            rw [sy_and, decide_eq_true (show s < 8 by omega), Bool.true_and]
            refine g_if_eq (q := 83) (tg := 103) dX10_spread_80 (by decide) rfl (fun c_80 => ?_) (fun c_80 => ?_)
            · have hb : Z.testBit (8 * m + s) = false := by
                by_cases h : Z.testBit (8 * m + s) = true
                · rw [if_pos h] at c_80
                  exact absurd c_80 (by decide)
                · simpa using h
              refine go n2 c ?_
              rw [scK_f (by rw [hZ]; exact hb)]
              exact hc
            · have hb : Z.testBit (8 * m + s) = true := by
                by_cases h : Z.testBit (8 * m + s) = true
                · exact h
                · rw [if_neg h] at c_80
                  exact absurd rfl c_80
              obtain ⟨p1, p2, p3, p4, p5, p6, p7, p8⟩ := hc
              have Lc := p2.L
              obtain ⟨z1, z2, z3⟩ := hZs _ hb
              have tn := p2.tn c x0.1 x0.2 (s := (s : Int)) (by omega) (by omega) (m : Int)
              rw [show 100 * (s : Int) + x.1 / 7 = x.1 / 7 + 100 * s by omega] at tn
              have nin := nxB_in (β := β) (st := x.1) (m := (m : Int)) (s := (s : Int)) (by omega) (by omega)
              have e1 : (8 * m + s) / 8 = m := by omega
              have e2 : (8 * m + s) % 8 = s := by omega
              have hN2 : scN β w x (8 * m + s) = (8 * m + s, (nxB β x.1 m s, ((sp : Nat) : Int))) := by
                unfold scN
                rw [e1, e2, hsp]
              have hcapc : c 77 10 = cap := by rw [p3 10 (by decide)]; exact hcap
              refine g_aload_n (q := 84) dX10_spread_83 rfl rfl ?_
              refine g_aload_n (q := 85) dX10_spread_84 rfl rfl ?_
              refine g_getO (q := 88) (kI := 0) fX10_29 (by first | assumption | exact S.at _ rfl) dX10_spread_85 rfl rfl (by first | assumption | exact L.at _ _ rfl | exact LK.at (by assumption) _ _ rfl | ((repeat first | rewrite [wr_na (by decide)] | rewrite [wr_nk (by decide)] | rewrite [wa_na (by decide)]); first | assumption | exact LK.at (by assumption) _ _ rfl) | exact rfl) ?_
              refine g_getA (q := 91) (kI := 5) fX10_102 (by first | assumption | exact S.at _ rfl) dX10_spread_88 rfl rfl (by first | assumption | exact L.at _ _ rfl | exact LK.at (by assumption) _ _ rfl | ((repeat first | rewrite [wr_na (by decide)] | rewrite [wr_nk (by decide)] | rewrite [wa_na (by decide)]); first | assumption | exact LK.at (by assumption) _ _ rfl) | exact rfl) ?_
              refine g_iload (q := 93) dX10_spread_91 rfl rfl ?_
              refine g_iaload (q := 94) (by first | assumption | exact S.at _ rfl) (by omega) (by omega) (by omega) dX10_spread_93 rfl ?_
              refine g_iload (q := 96) dX10_spread_94 rfl rfl ?_
              refine g_iadd (q := 97) dX10_spread_96 rfl ?_
              rw [tn]
              refine g_iload (q := 99) dX10_spread_97 rfl rfl ?_
              refine g_iload_n (q := 100) dX10_spread_99 rfl rfl ?_
              refine g_callV (q := 103) lX10_58 mX10_reach nX10_reach rfl (c_reach (d + 1) sh c S Lc hqn sq hN p4 nin.1 nin.2 hspl (by omega) (by omega) (by omega)) (by first | assumption | exact S.at _ rfl) rfl rfl shLe.rf (rmOk.mk (by omega) (by first | exact shLe.rf | assumption)) (Nat.le_of_ble_eq_true rfl) dX10_spread_100 rfl rfl (kN fun c3 hp => ?_)
              obtain ⟨r1, r2, r3⟩ := hp
              have M3 : MV c3 b β mk := p2.q hqn r1 (lk77 p2.L r2)
              rw [hcapc] at r3
              rcases r3 with ⟨hcool, hnw, hQ3, hold, hnd, hpr⟩ | ⟨hno, rfl⟩
              · refine go (n2 + 1) c3 ⟨p1.tr (r1.mono (by decide)), M3, fun k hk => (r2 k hk).trans (p3 k hk), hQ3, ?_, ?_, by omega, fun j hj => (hold j (by omega)).trans (p8 j hj)⟩
                · rw [scK_t (by rw [hZ]; exact hb) (by rw [e1, e2]; exact hcool), hN2]
                  exact p5.new p7 hnw (fun j hj => nd_cong (hold j hj)) hnd hpr
                · intro j hj
                  by_cases e : j = n2
                  · subst e
                    rw [hnd]
                    have hox : ok x := by
                      have := p6 i p7
                      rw [(nd_cong (p8 i (Nat.le_refl _))).1, hx] at this
                      exact this
                    refine hst x hox (8 * m + s, (nxB β x.1 m s, ((sp : Nat) : Int))) ?_
                    rw [← hN2]
                    unfold scW scK
                    rw [hZ, List.mem_filter]
                    refine ⟨List.mem_map.mpr ⟨_, brL_mem.mpr ⟨z1, hb⟩, rfl⟩, ?_⟩
                    rw [hN2]
                    exact hcool
                  · rw [(nd_cong (hold j (by omega))).1]
                    exact p6 j (by omega)
              · refine go n2 c3 ?_
                by_cases hcool : coolB cap (nxB β x.1 m s) = true
                · have hex : ∃ j, j < n2 ∧ ndQ c3 q j = (nxB β x.1 m s, ((sp : Nat) : Int)) := by
                    rcases hno with h | h | h
                    · rw [hcool] at h
                      cases h
                    · exact h
                    · apply Classical.byContradiction
                      intro hne
                      have hox : ok x := by
                        have := p6 i p7
                        rw [(nd_cong (p8 i (Nat.le_refl _))).1, hx] at this
                        exact this
                      have hoy : ok (nxB β x.1 m s, ((sp : Nat) : Int)) := by
                        refine hst x hox (8 * m + s, (nxB β x.1 m s, ((sp : Nat) : Int))) ?_
                        rw [← hN2]
                        unfold scW scK
                        rw [hZ, List.mem_filter]
                        refine ⟨List.mem_map.mpr ⟨_, brL_mem.mpr ⟨z1, hb⟩, rfl⟩, ?_⟩
                        rw [hN2]
                        exact hcool
                      have := hcp (n2 + 1) (fun j => if j < n2 then ndQ c3 q j else (nxB β x.1 m s, ((sp : Nat) : Int))) ?_ ?_
                      · omega
                      · intro j k' j1 k1 he
                        by_cases a1 : j < n2
                        · by_cases a2 : k' < n2
                          · simp only [if_pos a1, if_pos a2] at he
                            exact p5.2.1 j k' a1 a2 he
                          · simp only [if_pos a1, if_neg a2] at he
                            exact absurd ⟨j, a1, he⟩ hne
                        · by_cases a2 : k' < n2
                          · simp only [if_neg a1, if_pos a2] at he
                            exact absurd ⟨k', a2, he.symm⟩ hne
                          · omega
                      · intro j j1
                        by_cases a1 : j < n2
                        · simp only [if_pos a1]
                          exact p6 j a1
                        · simp only [if_neg a1]
                          exact hoy
                  obtain ⟨j, j1, j2⟩ := hex
                  rw [scK_t (by rw [hZ]; exact hb) (by rw [e1, e2]; exact hcool), hN2]
                  exact ⟨p1, p2, p3, p4, p5.old j1 j2, p6, p7, p8⟩
                · rw [scK_n (by rw [hZ]; exact hb) (by rw [e1, e2]; simpa using hcool)]
                  exact ⟨p1, p2, p3, p4, p5, p6, p7, p8⟩
      have ed : (w32 x.1).tdiv (w32 7) = x.1 / 7 := by rw [w32_id (by omega) (by omega), td_pos x0.1]; rfl
      have tail : G (mkK YX10_spread (d + 3) sh sh Po) 54 [some (.inr (.inr 77)), some (.inl i), some (.inl x.1), some (.inl x.2), some (.inr (.inl Z)), none, some (.inl m), o7, o8, o9] [.inl sp] sh c := by
        refine s_istore_10_7 (q := 56) dX10_spread_54 rfl rfl rfl ?_
        refine g_iload_n (q := 57) dX10_spread_56 rfl rfl ?_
        refine g_bipush (q := 59) dX10_spread_57 (by decide +kernel) rfl ?_
        refine g_idiv (q := 60) dX10_spread_59 (by decide) rfl ?_
        rw [ed]
        refine s_istore_10_8 (q := 62) dX10_spread_60 rfl rfl rfl ?_
        refine g_lload (q := 64) dX10_spread_62 rfl rfl ?_
        refine g_iload (q := 66) dX10_spread_64 rfl rfl ?_
        refine g_callSN (q := 69) lX10_98 mX11_sayingsOf sX11_sayingsOf rfl (c_sayingsOf (d + 2) sh c (z := Z) (m := m) (by omega) (by omega) (by omega) (by omega)) shLe.rf (rmOk.mk (by omega) (by first | exact shLe.rf | assumption)) (Nat.le_of_ble_eq_true rfl) dX10_spread_66 rfl rfl (kI fun r c2 hp => ?_)
        obtain ⟨rfl, rfl⟩ := hp
        rw [sy_i]
        refine s_istore_10_9 (q := 71) dX10_spread_69 rfl rfl rfl ?_
        have h := inner 8 0 n2 c2 (by omega) hc
        simpa using h
      have hwc : c 77 11 = w := by rw [hc.2.2.1 11 (by decide)]; exact hw
      refine g_iload (q := 32) dX10_spread_30 rfl rfl ?_
      refine g_bipush (q := 34) dX10_spread_32 (by decide +kernel) rfl ?_
      refine g_icmp_ge (q := 37) (tg := 121) dX10_spread_34 (by decide) rfl (fun c_34 => ?_) (fun c_34 => ?_)
      · exact absurd c_34 (by unfold w32; omega)
      · refine g_aload_n (q := 38) dX10_spread_37 rfl rfl ?_
        refine g_getI (q := 41) (kI := 11) fX10_49 (by first | assumption | exact S.at _ rfl) dX10_spread_38 rfl rfl ?_
        rw [hwc]
        refine g_if_ne (q := 44) (tg := 48) dX10_spread_41 (by decide) rfl (fun c_41 => ?_) (fun c_41 => ?_)
        · have hor : orI x.2 (shlI 1 m) = ((sp : Nat) : Int) := by
            rw [← hsp]
            unfold spN
            rw [if_neg (fun h => c_41 (by rw [h]; rfl))]
            unfold orI shlI
            rw [show ((m : Int) % 32).toNat = m by omega, Int.one_mul]
            have hm6 : 2 ^ m < 2 ^ 6 := Nat.pow_lt_pow_right (by decide) (by omega)
            have e3 : ((2 : Int) ^ m % 4294967296).toNat = 2 ^ m := by
              have : (2 : Int) ^ m = ((2 ^ m : Nat) : Int) := by rw [Int.natCast_pow]; rfl
              rw [this]
              generalize (2 : Nat) ^ m = p at hm6
              omega
            rw [e3, show (x.2 % 4294967296).toNat = x.2.toNat by omega]
          refine g_iload_n (q := 49) dX10_spread_48 rfl rfl ?_
          refine g_iconst (q := 50) dX10_spread_49 rfl ?_
          refine g_iload (q := 52) dX10_spread_50 rfl rfl ?_
          refine g_ishl (q := 53) dX10_spread_52 rfl ?_
          refine g_ior (q := 54) dX10_spread_53 rfl ?_
          rw [hor]
          exact tail
        · have : sp = 0 := by
            rw [← hsp]
            unfold spN
            rw [if_pos (by unfold w32 at c_41; omega)]
          subst this
          refine g_iconst (q := 45) dX10_spread_44 rfl ?_
          refine g_goto (q := 54) dX10_spread_45 (by decide) ?_
          exact tail
  refine Mt.of rfl (Nat.le_of_ble_eq_true rfl) ?_
  show G _ 0 [some (.inr (.inr 77)), some (.inl i), none, none, none, none, none, none, none, none] [] sh ct
  refine g_aload_n (q := 1) dX10_spread_0 rfl rfl ?_
  refine g_iload_n (q := 2) dX10_spread_1 rfl rfl ?_
  refine g_callV (q := 5) lX10_66 mX10_stateAt nX10_stateAt rfl (c_stateAt (d + 2) sh ct S q1 sq (by omega) (by omega) (by omega) hci.1 hci.2.1) (by first | assumption | exact S.at _ rfl) rfl rfl shLe.rf (rmOk.mk (by omega) (by first | exact shLe.rf | assumption)) (Nat.le_of_ble_eq_true rfl) dX10_spread_2 rfl rfl (kI fun r c hp => ?_)
  obtain ⟨rfl, rfl⟩ := hp
  rw [← hx1]
  refine s_istore_n_10_2 (q := 6) dX10_spread_5 rfl rfl rfl ?_
  refine g_aload_n (q := 7) dX10_spread_6 rfl rfl ?_
  refine g_iload_n (q := 8) dX10_spread_7 rfl rfl ?_
  refine g_callV (q := 11) lX10_62 mX10_spokenAt nX10_spokenAt rfl (c_spokenAt (d + 2) sh c S q1 sq (by omega) (by omega) (by omega) hci.1 hci.2.1) (by first | assumption | exact S.at _ rfl) rfl rfl shLe.rf (rmOk.mk (by omega) (by first | exact shLe.rf | assumption)) (Nat.le_of_ble_eq_true rfl) dX10_spread_8 rfl rfl (kI fun r c2 hp => ?_)
  obtain ⟨rfl, rfl⟩ := hp
  rw [← hx2]
  refine s_istore_n_10_3 (q := 12) dX10_spread_11 rfl rfl rfl ?_
  refine g_aload_n (q := 13) dX10_spread_12 rfl rfl ?_
  refine g_getO (q := 16) (kI := 0) fX10_29 (by first | assumption | exact S.at _ rfl) dX10_spread_13 rfl rfl (by first | assumption | exact L.at _ _ rfl | exact LK.at (by assumption) _ _ rfl | ((repeat first | rewrite [wr_na (by decide)] | rewrite [wr_nk (by decide)] | rewrite [wa_na (by decide)]); first | assumption | exact LK.at (by assumption) _ _ rfl) | exact rfl) ?_
  refine g_iload_n (q := 17) dX10_spread_16 rfl rfl ?_
  refine g_callV (q := 20) lX10_94 mX4_minutesAt nX4_minutesAt rfl (m_minutesAt d sh c2 S M x0.1 x0.2) (by first | assumption | exact S.at _ rfl) rfl rfl shLe.rf (rmOk.mk (by omega) (by first | exact shLe.rf | assumption)) (Nat.le_of_ble_eq_true rfl) dX10_spread_17 rfl rfl (kL fun r c3 hp => ?_)
  obtain ⟨rfl, hm1, hm2⟩ := hp
  have e77 : c3 77 = c2 77 := hm1 77 (by decide)
  have eq : c3 q = c2 q := hm1 q (by rcases hqn with rfl | h; decide; simp; omega)
  have e79 : c3 79 = c2 79 := hm1 79 (by decide)
  have hand : andL (msN β mk x.1) (c3 77 9) = (Z : Int) := by
    have := msN_lt β mk x.1
    rw [← hZ, ← hU, e77]
    unfold andL
    rw [show ((msN β mk x.1 : Int) % 18446744073709551616).toNat = msN β mk x.1 by omega]
  refine g_aload_n (q := 21) dX10_spread_20 rfl rfl ?_
  refine g_getJ (q := 24) (kI := 9) fX10_42 (by first | assumption | exact S.at _ rfl) dX10_spread_21 rfl rfl ?_
  refine g_land (q := 25) dX10_spread_24 rfl ?_
  rw [hand]
  refine s_lstore_10_4 (q := 27) dX10_spread_25 rfl rfl rfl ?_
  refine g_iconst (q := 28) dX10_spread_27 rfl ?_
  refine s_istore_10_6 (q := 30) dX10_spread_28 rfl rfl rfl ?_
  have hnd : ∀ j, ndQ c3 q j = ndQ c2 q j := fun j => by unfold ndQ; rw [eq]
  refine outer 6 0 n c3 none none none (by omega) ⟨hm1.bq.mono (by decide), hm2, fun k _ => by rw [e77], ⟨by rw [e77]; exact q1, by rw [e77]; exact q2, q3, by rw [eq]; exact q4, ?_⟩, ?_, fun j hj => by rw [hnd]; exact hok j hj, hi, fun j _ => by rw [eq]⟩
  · intro st sp a0 a1 a2
    unfold rbit
    rw [e79]
    simp only [hnd]
    exact q5 st sp a0 a1 a2
  · have e1 : ndQ c3 q = ndQ c2 q := funext hnd
    have e2 : prQ c3 q = prQ c2 q := by
      funext j
      unfold prQ
      rw [eq]
    rw [e1, e2]
    exact B
end
