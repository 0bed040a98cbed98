/-! Moves: branch; rows of bits -/
def brL (Z k : Nat) : List Nat := (List.range k).filter (fun i => Z.testBit i)
theorem brL_succ (Z k : Nat) : brL Z (k + 1) = brL Z k ++ (if Z.testBit k = true then [k] else []) := by
  unfold brL
  rw [List.range_succ, List.filter_append]
  congr 1
  by_cases h : Z.testBit k = true
  · rw [if_pos h]
    simp [h]
  · rw [if_neg h]
    simp [h]
theorem brL_t {Z k : Nat} (h : Z.testBit k = true) : brL Z (k + 1) = brL Z k ++ [k] := by rw [brL_succ, if_pos h]
theorem brL_f {Z k : Nat} (h : Z.testBit k = false) : brL Z (k + 1) = brL Z k := by rw [brL_succ, if_neg (by rw [h]; decide), List.append_nil]
theorem brL_pad {Z k : Nat} : ∀ n, (∀ i, k ≤ i → i < k + n → Z.testBit i = false) → brL Z (k + n) = brL Z k
  | 0, _ => rfl
  | n + 1, h => by
    show brL Z (k + n + 1) = _
    rw [brL_f (h _ (by omega) (by omega)), brL_pad n (fun i h1 h2 => h i h1 (by omega))]
theorem brL_len (Z k : Nat) : (brL Z k).length ≤ k := by
  unfold brL
  have := List.length_filter_le (fun i => Z.testBit i) (List.range k)
  simpa using this
theorem brL_mem {Z k i : Nat} : i ∈ brL Z k ↔ i < k ∧ Z.testBit i = true := by
  unfold brL
  rw [List.mem_filter, List.mem_range]
/-- a row that holds g of each of a list -/
def rowIs (f : Int → Int) (g : Nat → Int) (l : List Nat) : Prop := ∀ (j : Nat) (h : j < l.length), f j = g l[j]
theorem rowIs.nil {f : Int → Int} {g : Nat → Int} : rowIs f g [] := fun j h => absurd h (Nat.not_lt_zero _)
theorem rowIs.snoc {f f2 : Int → Int} {g : Nat → Int} {l : List Nat} {x : Nat} (h : rowIs f g l) (h1 : ∀ j : Int, j < l.length → f2 j = f j) (h2 : f2 l.length = g x) : rowIs f2 g (l ++ [x]) := by
  intro j hj
  rw [List.length_append] at hj
  by_cases e : j < l.length
  · rw [List.getElem_append_left e, h1 _ (by omega)]
    exact h j e
  · have : j = l.length := by simp at hj; omega
    subst this
    simpa using h2
theorem sy_bit (Z m s : Nat) : (Z / 2 ^ (8 * m) % 256 / 2 ^ s).testBit 0 = (decide (s < 8) && Z.testBit (8 * m + s)) := by
  rw [Nat.testBit_div_two_pow, show (256 : Nat) = 2 ^ 8 from rfl, Nat.testBit_mod_two_pow, Nat.testBit_div_two_pow]
  rw [show 8 * m + s = 0 + s + 8 * m by omega, show (0 + s : Nat) = s by omega]
theorem sy_0 {Z m s : Nat} (h : Z / 2 ^ (8 * m) % 256 / 2 ^ s = 0) (s' : Nat) (h1 : s ≤ s') (h2 : s' < 8) : Z.testBit (8 * m + s') = false := by
  have e := sy_bit Z m s'
  have h3 : Z / 2 ^ (8 * m) % 256 / 2 ^ s' = 0 := by
    rw [show s' = s + (s' - s) by omega, Nat.pow_add, ← Nat.div_div_eq_div_mul, h, Nat.zero_div]
  rw [h3, Nat.zero_testBit, decide_eq_true h2] at e
  simpa using e.symm
theorem sy_lt {Z m s : Nat} (h : Z / 2 ^ (8 * m) % 256 / 2 ^ s ≠ 0) : s < 8 := by
  apply Nat.lt_of_not_le
  intro h2
  apply h
  apply Nat.div_eq_of_lt
  have h3 : Z / 2 ^ (8 * m) % 256 < 256 := Nat.mod_lt _ (by decide)
  have h4 : 2 ^ 8 ≤ 2 ^ s := Nat.pow_le_pow_right (by decide) h2
  omega
theorem sy_le (Z m s : Nat) : Z / 2 ^ (8 * m) % 256 / 2 ^ s < 256 := by
  have h3 : Z / 2 ^ (8 * m) % 256 < 256 := Nat.mod_lt _ (by decide)
  exact Nat.lt_of_le_of_lt (Nat.div_le_self _ _) h3
theorem sy_shr (Z m s : Nat) : ushI ((Z / 2 ^ (8 * m) % 256 / 2 ^ s : Nat) : Int) 1 = ((Z / 2 ^ (8 * m) % 256 / 2 ^ (s + 1) : Nat) : Int) := by
  have h := sy_le Z m s
  unfold ushI
  rw [Nat.pow_succ, ← Nat.div_div_eq_div_mul]
  generalize Z / 2 ^ (8 * m) % 256 / 2 ^ s = y at h
  show (y : Int) % 4294967296 / 2 = _
  omega
theorem sy_and (Z m s : Nat) : andI ((Z / 2 ^ (8 * m) % 256 / 2 ^ s : Nat) : Int) 1 = if (decide (s < 8) && Z.testBit (8 * m + s)) = true then 1 else 0 := by
  have h := sy_le Z m s
  rw [← sy_bit]
  generalize Z / 2 ^ (8 * m) % 256 / 2 ^ s = y at h
  unfold andI
  rw [show ((y : Int) % 4294967296).toNat = y by omega, show ((1 : Int) % 4294967296).toNat = 1 from rfl, Nat.and_one_is_mod, Nat.testBit_zero]
  by_cases e : y % 2 = 1
  · simp [e]
  · have : y % 2 = 0 := by omega
    simp [this]
theorem sy_i (Z m : Nat) : (Z : Int) / 2 ^ (8 * (m : Int)).toNat % 256 = ((Z / 2 ^ (8 * m) % 256 / 2 ^ 0 : Nat) : Int) := by
  rw [show (8 * (m : Int)).toNat = 8 * m by omega, Nat.pow_zero, Nat.div_one, Int.natCast_emod, Int.natCast_ediv, Int.natCast_pow]
  rfl
/-- a minute's number by its bit -/
def mnt (i : Nat) : Int := 10 * (i / 8 : Nat) + (i % 8 : Nat)
def brC (ct : mbCt) (st : Int) (Z k : Nat) (c : mbCt) : Prop := eqBut [75, 76] ct c ∧ rowIs (c 75) mnt (brL Z k) ∧ rowIs (c 76) (fun i => ct 74 (100 * (i % 8 : Nat) + st / 7) + (i / 8 : Nat)) (brL Z k)
/-- links stay where no cell with links has changed -/
theorem LK.eb {ct c : mbCt} (L : LK ct) {A : List Int} (h : eqBut A ct c) (hA : (A.all fun a => ((lkT[a.toNat]?).getD []).isEmpty) = true) : LK c := by
  refine L.but h fun a ha k v hv => ?_
  have := List.all_eq_true.mp hA a ha
  rw [lkF_none (List.isEmpty_iff.mp this)] at hv
  cases hv
theorem LK_br {ct c : mbCt} {st : Int} {Z k : Nat} (L : LK ct) (h : brC ct st Z k c) : LK c := L.eb h.1 rfl
section
variable (d : Nat) (sh : mbSh) (ct : mbCt)
theorem c_branch {st : Int} {Z : Nat} (S : SH sh) (L : LK ct) (h0 : 0 ≤ st) (h1 : st < 700) (hZ : Z < 9223372036854775808) : Mt YX4_branch (d + 1) [.inr (.inr 70), .inl st, .inr (.inl Z)] sh sh ct (pI fun r c => r = (brL Z 48).length ∧ brC ct st Z 48 c) := by
  have s75 : shA sh 75 = some (20, 48) := S.at _ rfl
  have s76 : shA sh 76 = some (20, 48) := S.at _ rfl
  have s74 : shA sh 74 = some (20, 800) := S.at _ rfl
  generalize hP : (pI fun r c => r = ((brL Z 48).length : Int) ∧ brC ct st Z 48 c) = Po
  have outer : ∀ (k m : Nat) (c : mbCt) (o6 o7 o8 : Option gV), m + k = 6 → brC ct st Z (8 * m) c → G (mkK YX4_branch (d + 1) sh sh Po) 6 [some (.inr (.inr 70)), some (.inl st), some (.inr (.inl Z)), none, some (.inl (brL Z (8 * m)).length), some (.inl m), o6, o7, o8] [] sh c := by
    intro k
    induction k with
    | zero =>
      intro m c o6 o7 o8 hm hc
      have e : m = 6 := by omega
      subst e
      refine g_iload (q := 8) dX4_branch_6 rfl rfl ?_
      refine g_bipush (q := 10) dX4_branch_8 (by decide +kernel) rfl ?_
      refine g_icmp_ge (q := 13) (tg := 96) dX4_branch_10 (by decide) rfl (fun c_10 => ?_) (fun c_10 => ?_)
      · refine g_iload (q := 98) dX4_branch_96 rfl rfl ?_
        refine g_ireturn dX4_branch_98 rfl ?_
        rw [← hP]
        exact ⟨_, rfl, rfl, hc⟩
      · exact absurd c_10 (by unfold w32; omega)
    | succ k ih =>
      intro m c o6 o7 o8 hm hc
      have inner : ∀ (k2 s : Nat) (c : mbCt), s + k2 = 8 → brC ct st Z (8 * m + s) c → G (mkK YX4_branch (d + 1) sh sh Po) 34 [some (.inr (.inr 70)), some (.inl st), some (.inr (.inl Z)), none, some (.inl (brL Z (8 * m + s)).length), some (.inl m), some (.inl (10 * m + s)), some (.inl (st / 7 + 100 * s)), some (.inl (Z / 2 ^ (8 * m) % 256 / 2 ^ s : Nat))] [] sh c := by
        intro k2
        induction k2 with
        | zero =>
          intro s c hs hc
          have e : s = 8 := by omega
          subst e
          have hz : Z / 2 ^ (8 * m) % 256 / 2 ^ 8 = 0 := Classical.byContradiction fun h => absurd (sy_lt h) (by decide)
          rw [hz]
          refine g_iload (q := 36) dX4_branch_34 rfl rfl ?_
          refine g_if_eq (q := 39) (tg := 90) dX4_branch_36 (by decide) rfl (fun c_36 => ?_) (fun c_36 => ?_)
          · refine s_iinc_9_5 (q := 93) dX4_branch_90 rfl rfl rfl ?_
            refine g_goto (q := 6) dX4_branch_93 (by decide) ?_
            exact ih (m + 1) c _ _ _ (by omega) hc
          · exact absurd rfl c_36
        | succ k2 ih2 =>
          intro s c hs hc
          have hle := sy_le Z m s
          refine g_iload (q := 36) dX4_branch_34 rfl rfl ?_
          refine g_if_eq (q := 39) (tg := 90) dX4_branch_36 (by decide) rfl (fun c_36 => ?_) (fun c_36 => ?_)
          · have hz : Z / 2 ^ (8 * m) % 256 / 2 ^ s = 0 := by
              generalize Z / 2 ^ (8 * m) % 256 / 2 ^ s = y at hle c_36
              unfold w32 at c_36
              omega
            have e : brL Z (8 * m + s) = brL Z (8 * (m + 1)) := by
              rw [show 8 * (m + 1) = 8 * m + s + (8 - s) by omega]
              refine (brL_pad _ fun i i1 i2 => ?_).symm
              have := sy_0 hz (i - 8 * m) (by omega) (by omega)
              rw [show 8 * m + (i - 8 * m) = i by omega] at this
              exact this
            unfold brC at hc
            rw [e] at hc ⊢
            refine s_iinc_9_5 (q := 93) dX4_branch_90 rfl rfl rfl ?_
            refine g_goto (q := 6) dX4_branch_93 (by decide) ?_
            exact ih (m + 1) c _ _ _ (by omega) hc
          · refine g_iload (q := 41) dX4_branch_39 rfl rfl ?_
            refine g_iconst (q := 42) dX4_branch_41 rfl ?_
            refine g_iand (q := 43) dX4_branch_42 rfl ?_
            rw [sy_and, decide_eq_true (show s < 8 by omega), Bool.true_and]
            have q74 : c 74 = ct 74 := hc.1 74 (by decide)
            have Lc : LK c := LK_br L hc
            have hln := brL_len Z (8 * m + s)
            refine g_if_eq (q := 46) (tg := 75) dX4_branch_43 (by decide) rfl (fun c_43 => ?_) (fun c_43 => ?_)
            · have hb : Z.testBit (8 * m + s) = false := by
                by_cases h : Z.testBit (8 * m + s) = true
                · rw [if_pos h] at c_43
                  exact absurd c_43 (by decide)
                · simpa using h
              refine s_iinc_9_6 (q := 78) dX4_branch_75 rfl rfl rfl ?_
              refine s_iinc_9_7 (q := 81) dX4_branch_78 rfl rfl rfl ?_
              refine g_iload (q := 83) dX4_branch_81 rfl rfl ?_
              refine g_iconst (q := 84) dX4_branch_83 rfl ?_
              refine g_iushr (q := 85) dX4_branch_84 rfl ?_
              rw [sy_shr]
              refine s_istore_9_8 (q := 87) dX4_branch_85 rfl rfl rfl ?_
              refine g_goto (q := 34) dX4_branch_87 (by decide) ?_
              have h := ih2 (s + 1) c (by omega) (by show brC ct st Z (8 * m + s + 1) c; unfold brC; rw [brL_f hb]; exact hc)
              rw [show 8 * m + (s + 1) = 8 * m + s + 1 by omega, brL_f hb] at h
              rw [Int.natCast_succ s, show 10 * (m : Int) + (s + 1) = 10 * m + s + 1 by omega, show st / 7 + 100 * ((s : Int) + 1) = st / 7 + 100 * s + 100 by omega] at h
              exact h
            · have hb : Z.testBit (8 * m + s) = true := by
                by_cases h : Z.testBit (8 * m + s) = true
                · exact h
                · rw [if_neg h] at c_43
                  exact absurd rfl c_43
              refine g_aload_n (q := 47) dX4_branch_46 rfl rfl ?_
              refine g_getA (q := 50) (kI := 8) fX4_26 (by first | assumption | exact S.at _ rfl) dX4_branch_47 rfl rfl (by first | assumption | exact L.at _ _ rfl | exact LK.at (by assumption) _ _ rfl | ((repeat first | rewrite [wr_na (by decide)] | rewrite [wr_nk (by decide)] | rewrite [wa_na (by decide)]); first | assumption | exact LK.at (by assumption) _ _ rfl) | exact rfl) ?_
              refine g_iload (q := 52) dX4_branch_50 rfl rfl ?_
              refine g_iload (q := 54) dX4_branch_52 rfl rfl ?_
              refine g_iastore (q := 55) (by first | assumption | exact S.at _ rfl) (by omega) (by omega) (by omega) dX4_branch_54 rfl ?_
              refine g_aload_n (q := 56) dX4_branch_55 rfl rfl ?_
              refine g_getA (q := 59) (kI := 9) fX4_29 (by first | assumption | exact S.at _ rfl) dX4_branch_56 rfl rfl (by first | assumption | exact L.at _ _ rfl | exact LK.at (by assumption) _ _ rfl | ((repeat first | rewrite [wr_na (by decide)] | rewrite [wr_nk (by decide)] | rewrite [wa_na (by decide)]); first | assumption | exact LK.at (by assumption) _ _ rfl) | exact rfl) ?_
              refine g_iload (q := 61) dX4_branch_59 rfl rfl ?_
              refine g_aload_n (q := 62) dX4_branch_61 rfl rfl ?_
              refine g_getA (q := 65) (kI := 5) fX4_23 (by first | assumption | exact S.at _ rfl) dX4_branch_62 rfl rfl (by first | assumption | exact L.at _ _ rfl | exact LK.at (by assumption) _ _ rfl | ((repeat first | rewrite [wr_na (by decide)] | rewrite [wr_nk (by decide)] | rewrite [wa_na (by decide)]); first | assumption | exact LK.at (by assumption) _ _ rfl) | exact rfl) ?_
              refine g_iload (q := 67) dX4_branch_65 rfl rfl ?_
              refine g_iaload (q := 68) (by first | assumption | exact S.at _ rfl) (by omega) (by omega) (by omega) dX4_branch_67 rfl ?_
              refine g_iload (q := 70) dX4_branch_68 rfl rfl ?_
              refine g_iadd (q := 71) dX4_branch_70 rfl ?_
              refine g_iastore (q := 72) (by first | assumption | exact S.at _ rfl) (by omega) (by omega) (by omega) dX4_branch_71 rfl ?_
              refine s_iinc_9_4 (q := 75) dX4_branch_72 rfl rfl rfl ?_
              refine s_iinc_9_6 (q := 78) dX4_branch_75 rfl rfl rfl ?_
              refine s_iinc_9_7 (q := 81) dX4_branch_78 rfl rfl rfl ?_
              refine g_iload (q := 83) dX4_branch_81 rfl rfl ?_
              refine g_iconst (q := 84) dX4_branch_83 rfl ?_
              refine g_iushr (q := 85) dX4_branch_84 rfl ?_
              rw [sy_shr]
              refine s_istore_9_8 (q := 87) dX4_branch_85 rfl rfl rfl ?_
              refine g_goto (q := 34) dX4_branch_87 (by decide) ?_
              have hcc : brC ct st Z (8 * m + (s + 1)) (wr (wr c 75 (brL Z (8 * m + s)).length (10 * m + s)) 76 (brL Z (8 * m + s)).length (wr c 75 (brL Z (8 * m + s)).length (10 * m + s) 74 (st / 7 + 100 * s) + m)) := by
                show brC ct st Z (8 * m + s + 1) _
                unfold brC
                rw [brL_t hb]
                refine ⟨(hc.1.wr (by decide)).wr (by decide), hc.2.1.snoc (fun j hj => ?_) ?_, hc.2.2.snoc (fun j hj => ?_) ?_⟩
                · rw [wr_na (by decide), wr_nk (by omega)]
                · rw [wr_na (by decide), wr_eq]
                  unfold mnt
                  omega
                · rw [wr_nk (by omega), wr_na (by decide)]
                · rw [wr_eq, wr_na (by decide), q74]
                  congr 2
                  · omega
                  · omega
              have h := ih2 (s + 1) _ (by omega) hcc
              rw [show 8 * m + (s + 1) = 8 * m + s + 1 by omega, brL_t hb, List.length_append, Int.natCast_add] at h
              rw [Int.natCast_succ s, show 10 * (m : Int) + (s + 1) = 10 * m + s + 1 by omega, show st / 7 + 100 * ((s : Int) + 1) = st / 7 + 100 * s + 100 by omega] at h
              exact h
      have ed : (w32 st).tdiv (w32 7) = st / 7 := by rw [w32_id (by omega) (by omega), td_pos h0]; rfl
      refine g_iload (q := 8) dX4_branch_6 rfl rfl ?_
      refine g_bipush (q := 10) dX4_branch_8 (by decide +kernel) rfl ?_
      refine g_icmp_ge (q := 13) (tg := 96) dX4_branch_10 (by decide) rfl (fun c_10 => ?_) (fun c_10 => ?_)
      · exact absurd c_10 (by unfold w32; omega)
      · refine g_bipush (q := 15) dX4_branch_13 (by decide +kernel) rfl ?_
        refine g_iload (q := 17) dX4_branch_15 rfl rfl ?_
        refine g_imul (q := 18) dX4_branch_17 rfl ?_
        refine s_istore_9_6 (q := 20) dX4_branch_18 rfl rfl rfl ?_
        refine g_iload_n (q := 21) dX4_branch_20 rfl rfl ?_
        refine g_bipush (q := 23) dX4_branch_21 (by decide +kernel) rfl ?_
        refine g_idiv (q := 24) dX4_branch_23 (by decide) rfl ?_
        rw [ed]
        refine s_istore_9_7 (q := 26) dX4_branch_24 rfl rfl rfl ?_
        refine g_lload_n (q := 27) dX4_branch_26 rfl rfl ?_
        refine g_iload (q := 29) dX4_branch_27 rfl rfl ?_
        refine g_callSN (q := 32) lX4_126 mX11_sayingsOf sX11_sayingsOf rfl (c_sayingsOf d sh c (z := Z) (m := m) (by omega) (by omega) (by omega) (by omega)) shLe.rf (rmOk.mk (by omega) (by first | exact shLe.rf | assumption)) (Nat.le_of_ble_eq_true rfl) dX4_branch_29 rfl rfl (kI fun r c2 hp => ?_)
        obtain ⟨rfl, rfl⟩ := hp
        rw [sy_i]
        refine s_istore_9_8 (q := 34) dX4_branch_32 rfl rfl rfl ?_
        have h := inner 8 0 c2 (by omega) hc
        simpa using h
  refine Mt.of rfl (Nat.le_of_ble_eq_true rfl) ?_
  show G _ 0 [some (.inr (.inr 70)), some (.inl st), some (.inr (.inl Z)), none, none, none, none, none, none] [] sh ct
  refine g_iconst (q := 1) dX4_branch_0 rfl ?_
  refine s_istore_9_4 (q := 3) dX4_branch_1 rfl rfl rfl ?_
  refine g_iconst (q := 4) dX4_branch_3 rfl ?_
  refine s_istore_9_5 (q := 6) dX4_branch_4 rfl rfl rfl ?_
  exact outer 6 0 ct none none none (by omega) ⟨eqBut.rf, rowIs.nil, rowIs.nil⟩
end
