/-! Moves: heed, settle -/
def allEq (f g : Int → Int) (n : Int) : Prop := ∀ j, 0 ≤ j → j < n → f j = g j
section
variable (d : Nat) (sh : mbSh) (ct : mbCt)
/-- what heed does, once the marks have been looked at -/
def heedC (ct : mbCt) (b : Int) (c : mbCt) : Prop := eqBut [70, 71, 72] ct c ∧ (∀ k, k ≠ 7 → c 70 k = ct 70 k) ∧ c 71 = cp0 (ct 13) (ct 71) (ct b 2) ∧ ((allEq (ct 71) (ct 13) (ct b 2) ∧ c 72 = ct 72 ∧ c 70 7 = ct 70 7) ∨ (¬ allEq (ct 71) (ct 13) (ct b 2) ∧ (∀ k, 0 ≤ k → k < 700 → c 72 k = 0) ∧ c 70 7 = ct 70 7 + 1))
theorem c_heed {b : Int} (S : SH sh) (L : LK ct) (hb : bkN b) (h70 : ct 70 0 = b) (m0 : 0 ≤ ct b 2) (m1 : ct b 2 ≤ 6) (hr : ∀ m, 0 ≤ m → m < 6 → (0 ≤ ct 71 m ∧ ct 71 m ≤ 9) ∧ 0 ≤ ct 13 m ∧ ct 13 m ≤ 9) : Mt YX4_heed (d + 1) [.inr (.inr 70), .inr (.inr 13)] sh sh ct (pN fun c => heedC ct b c) := by
  have bne : b ≠ 71 ∧ b ≠ 72 ∧ b ≠ 70 := by rcases hb with rfl | rfl <;> decide
  obtain ⟨b1, -⟩ := bk_at S L hb
  have s71 : shA sh 71 = some (20, 6) := S.at _ rfl
  have s13 : shA sh 13 = some (20, 6) := S.at _ rfl
  have loop : ∀ (k : Nat) (i like : Int), i + k = ct b 2 → 0 ≤ i → (like = 0 ∨ like = 1) → (like = 1 ↔ allEq (ct 71) (ct 13) i) → G (mkK YX4_heed (d + 1) sh sh (pN fun c => heedC ct b c)) 4 [some (.inr (.inr 70)), some (.inr (.inr 13)), some (.inl like), some (.inl i)] [] sh (wa ct 71 (cp0 (ct 13) (ct 71) i)) := by
    intro k
    induction k with
    | zero =>
      intro i like hi i0 hl1 hl2
      have hin : i = ct b 2 := by omega
      have lb : wa ct 71 (cp0 (ct 13) (ct 71) i) 70 0 = b := by rw [wa_na (by decide)]; exact h70
      have lm : wa ct 71 (cp0 (ct 13) (ct 71) i) 70 3 = 72 := by rw [wa_na (by decide)]; exact L.at _ _ rfl
      refine g_iload_n (q := 5) dX4_heed_4 rfl rfl ?_
      refine g_aload_n (q := 6) dX4_heed_5 rfl rfl ?_
      refine g_getO (q := 9) (kI := 0) fX4_32 (by first | assumption | exact S.at _ rfl) dX4_heed_6 rfl rfl (by first | assumption | exact L.at _ _ rfl | exact LK.at (by assumption) _ _ rfl | ((repeat first | rewrite [wr_na (by decide)] | rewrite [wr_nk (by decide)] | rewrite [wa_na (by decide)]); first | assumption | exact LK.at (by assumption) _ _ rfl) | exact rfl) ?_
      refine g_getI (q := 12) (kI := 2) fX4_95 (by first | assumption | exact S.at _ rfl) dX4_heed_9 rfl rfl ?_
      rw [wa_na bne.1]
      refine g_icmp_ge (q := 15) (tg := 50) dX4_heed_12 (by decide) rfl (fun c_12 => ?_) (fun c_12 => ?_)
      · refine g_iload_n (q := 51) dX4_heed_50 rfl rfl ?_
        refine g_if_ne (q := 54) (tg := 72) dX4_heed_51 (by decide) rfl (fun c_51 => ?_) (fun c_51 => ?_)
        · have hlk : like = 1 := by
            rcases hl1 with h | h
            · rw [h] at c_51
              exact absurd rfl c_51
            · exact h
          refine g_return dX4_heed_72 rfl ?_
          refine ⟨rfl, ?_, ?_, ?_, Or.inl ⟨?_, ?_, ?_⟩⟩
          · exact eqBut.rf.wa (by decide)
          · intro k hk
            exact wa_na (by decide)
          · rw [← hin]
            funext j
            exact wa_eq
          · rw [← hin]
            exact hl2.mp hlk
          · exact wa_other _ _ _ _ (by decide)
          · exact wa_na (by decide)
        · have hlk : ¬ allEq (ct 71) (ct 13) (ct b 2) := by
            intro h
            rw [← hin] at h
            rw [hl2.mpr h] at c_51
            exact absurd c_51 (by decide)
          refine g_aload_n (q := 55) dX4_heed_54 rfl rfl ?_
          refine g_getA (q := 58) (kI := 3) fX4_15 (by first | assumption | exact S.at _ rfl) dX4_heed_55 rfl rfl (by first | assumption | exact L.at _ _ rfl | exact LK.at (by assumption) _ _ rfl | ((repeat first | rewrite [wr_na (by decide)] | rewrite [wr_nk (by decide)] | rewrite [wa_na (by decide)]); first | assumption | exact LK.at (by assumption) _ _ rfl) | exact rfl) ?_
          refine g_lconst0 (q := 59) dX4_heed_58 rfl ?_
          refine g_callS (q := 62) lX4_74 mJ7_fill_d0a16 sJ7_fill_d0a16 rfl (c_fillL d sh _ (S.at 72 rfl) (by decide)) shLe.rf (rmOk.mk (by omega) (by first | exact shLe.rf | assumption)) (Nat.le_of_ble_eq_true rfl) dX4_heed_59 rfl rfl (kN fun c hp => ?_)
          subst hp
          refine g_aload_n (q := 63) dX4_heed_62 rfl rfl ?_
          refine g_dup (q := 64) dX4_heed_63 rfl rfl ?_
          refine g_getI (q := 67) (kI := 7) fX4_83 (by first | assumption | exact S.at _ rfl) dX4_heed_64 rfl rfl ?_
          refine g_iconst (q := 68) dX4_heed_67 rfl ?_
          refine g_iadd (q := 69) dX4_heed_68 rfl ?_
          refine g_putI (q := 72) (kI := 7) fX4_83 (by first | assumption | exact S.at _ rfl) dX4_heed_69 rfl rfl ?_
          refine g_return dX4_heed_72 rfl ?_
          refine ⟨rfl, ?_, ?_, ?_, Or.inr ⟨hlk, ?_, ?_⟩⟩
          · exact ((eqBut.rf.wa (by decide)).wa (by decide)).wr (by decide)
          · intro k hk
            rw [wr_nk hk, wa_na (by decide), wa_na (by decide)]
          · rw [← hin, wr_other _ _ _ _ _ (by decide), wa_other _ _ _ _ (by decide)]
            funext j
            exact wa_eq
          · intro k k0 k1
            rw [wr_na (by decide), wa_eq]
            unfold flF
            rw [if_pos (by omega)]
          · rw [wr_eq, wa_na (by decide), wa_na (by decide)]
      · exact absurd c_12 (by unfold w32; omega)
    | succ k ih =>
      intro i like hi i0 hl1 hl2
      have lb : wa ct 71 (cp0 (ct 13) (ct 71) i) 70 0 = b := by rw [wa_na (by decide)]; exact h70
      have lm : wa ct 71 (cp0 (ct 13) (ct 71) i) 70 2 = 71 := by rw [wa_na (by decide)]; exact L.at _ _ rfl
      have hri := hr i i0 (by omega)
      have v71 : wa ct 71 (cp0 (ct 13) (ct 71) i) 71 i = ct 71 i := by
        rw [wa_eq]
        unfold cp0
        rw [if_neg (by omega)]
      have v13 : wa ct 71 (cp0 (ct 13) (ct 71) i) 13 i = ct 13 i := wa_na (by decide)
      have step : wr (wa ct 71 (cp0 (ct 13) (ct 71) i)) 71 i (ct 13 i) = wa ct 71 (cp0 (ct 13) (ct 71) (i + 1)) := by
        funext x j
        unfold wr wa cp0
        grind
      have fin : ∀ e : Int, (e = 0 ∨ e = 1) → (e = 1 ↔ ct 71 i = ct 13 i) → G (mkK YX4_heed (d + 1) sh sh (pN fun c => heedC ct b c)) 33 [some (.inr (.inr 70)), some (.inr (.inr 13)), some (.inl like), some (.inl i)] [.inl e, .inl like] sh (wa ct 71 (cp0 (ct 13) (ct 71) i)) := by
        intro e he1 he2
        have hand := (and01 hl1 he1).1
        refine g_iand (q := 34) dX4_heed_33 rfl ?_
        rw [hand]
        refine s_istore_n_4_2 (q := 35) dX4_heed_34 rfl rfl rfl ?_
        refine g_aload_n (q := 36) dX4_heed_35 rfl rfl ?_
        refine g_getA (q := 39) (kI := 2) fX4_9 (by first | assumption | exact S.at _ rfl) dX4_heed_36 rfl rfl (by first | assumption | exact L.at _ _ rfl | exact LK.at (by assumption) _ _ rfl | ((repeat first | rewrite [wr_na (by decide)] | rewrite [wr_nk (by decide)] | rewrite [wa_na (by decide)]); first | assumption | exact LK.at (by assumption) _ _ rfl) | exact rfl) ?_
        refine g_iload_n (q := 40) dX4_heed_39 rfl rfl ?_
        refine g_aload_n (q := 41) dX4_heed_40 rfl rfl ?_
        refine g_iload_n (q := 42) dX4_heed_41 rfl rfl ?_
        refine g_iaload (q := 43) (by first | assumption | exact S.at _ rfl) (by omega) (by omega) (by omega) dX4_heed_42 rfl ?_
        rw [v13]
        refine g_iastore (q := 44) (by first | assumption | exact S.at _ rfl) (by omega) (by omega) (by omega) dX4_heed_43 rfl ?_
        rw [step]
        refine s_iinc_4_3 (q := 47) dX4_heed_44 rfl rfl rfl ?_
        refine g_goto (q := 4) dX4_heed_47 (by decide) ?_
        refine ih (i + 1) (b01 (like = 1 ∧ e = 1)) (by omega) (by omega) (b01_in _) ?_
        constructor
        · intro h j j0 j1
          have hle : like = 1 ∧ e = 1 := by
            unfold b01 at h
            split at h
            · assumption
            · cases h
          by_cases hj : j = i
          · subst hj
            exact he2.mp hle.2
          · exact hl2.mp hle.1 j j0 (by omega)
        · intro h
          exact (b01_t ⟨hl2.mpr (fun j j0 j1 => h j j0 (by omega)), he2.mpr (h i i0 (by omega))⟩).symm
      refine g_iload_n (q := 5) dX4_heed_4 rfl rfl ?_
      refine g_aload_n (q := 6) dX4_heed_5 rfl rfl ?_
      refine g_getO (q := 9) (kI := 0) fX4_32 (by first | assumption | exact S.at _ rfl) dX4_heed_6 rfl rfl (by first | assumption | exact L.at _ _ rfl | exact LK.at (by assumption) _ _ rfl | ((repeat first | rewrite [wr_na (by decide)] | rewrite [wr_nk (by decide)] | rewrite [wa_na (by decide)]); first | assumption | exact LK.at (by assumption) _ _ rfl) | exact rfl) ?_
      refine g_getI (q := 12) (kI := 2) fX4_95 (by first | assumption | exact S.at _ rfl) dX4_heed_9 rfl rfl ?_
      rw [wa_na bne.1]
      refine g_icmp_ge (q := 15) (tg := 50) dX4_heed_12 (by decide) rfl (fun c_12 => ?_) (fun c_12 => ?_)
      · exact absurd c_12 (by unfold w32; omega)
      · refine g_iload_n (q := 16) dX4_heed_15 rfl rfl ?_
        refine g_aload_n (q := 17) dX4_heed_16 rfl rfl ?_
        refine g_getA (q := 20) (kI := 2) fX4_9 (by first | assumption | exact S.at _ rfl) dX4_heed_17 rfl rfl (by first | assumption | exact L.at _ _ rfl | exact LK.at (by assumption) _ _ rfl | ((repeat first | rewrite [wr_na (by decide)] | rewrite [wr_nk (by decide)] | rewrite [wa_na (by decide)]); first | assumption | exact LK.at (by assumption) _ _ rfl) | exact rfl) ?_
        refine g_iload_n (q := 21) dX4_heed_20 rfl rfl ?_
        refine g_iaload (q := 22) (by first | assumption | exact S.at _ rfl) (by omega) (by omega) (by omega) dX4_heed_21 rfl ?_
        rw [v71]
        refine g_aload_n (q := 23) dX4_heed_22 rfl rfl ?_
        refine g_iload_n (q := 24) dX4_heed_23 rfl rfl ?_
        refine g_iaload (q := 25) (by first | assumption | exact S.at _ rfl) (by omega) (by omega) (by omega) dX4_heed_24 rfl ?_
        rw [v13]
        refine g_icmp_ne (q := 28) (tg := 32) dX4_heed_25 (by decide) rfl (fun c_25 => ?_) (fun c_25 => ?_)
        · refine g_iconst (q := 33) dX4_heed_32 rfl ?_
          exact fin 0 (Or.inl rfl) ⟨fun h => absurd h (by decide), fun h => absurd (by rw [h]) c_25⟩
        · refine g_iconst (q := 29) dX4_heed_28 rfl ?_
          refine g_goto (q := 33) dX4_heed_29 (by decide) ?_
          exact fin 1 (Or.inr rfl) ⟨fun _ => by unfold w32 at c_25; omega, fun _ => rfl⟩
  refine Mt.of rfl (Nat.le_of_ble_eq_true rfl) ?_
  show G _ 0 [some (.inr (.inr 70)), some (.inr (.inr 13)), none, none] [] sh ct
  refine g_iconst (q := 1) dX4_heed_0 rfl ?_
  refine s_istore_n_4_2 (q := 2) dX4_heed_1 rfl rfl rfl ?_
  refine g_iconst (q := 3) dX4_heed_2 rfl ?_
  refine s_istore_n_4_3 (q := 4) dX4_heed_3 rfl rfl rfl ?_
  have h := loop (ct b 2).toNat 0 1 (by omega) (by omega) (Or.inr rfl) ⟨fun _ j j0 j1 => by omega, fun _ => rfl⟩
  have e : cp0 (ct 13) (ct 71) 0 = ct 71 := by
    funext j
    unfold cp0
    rw [if_neg (by omega)]
  rw [e, wa_self] at h
  exact h
/-- what settle does with a new book nb -/
def settleC (ct : mbCt) (nb : Int) (c : mbCt) : Prop := eqBut [70, 72, 73, 74] ct c ∧ c 70 0 = nb ∧ (c 70 6 = 0 ∨ c 70 6 = 1) ∧ (c 70 6 = 0 → noLast ct nb) ∧ c 70 7 = ct 70 7 + 1 ∧ (∀ k, k ≠ 0 → k ≠ 6 → k ≠ 7 → c 70 k = ct 70 k) ∧ (∀ k, 0 ≤ k → k < 700 → c 72 k = 0 ∧ c 73 k = 0) ∧ mvTurn c nb
def trnF (ct : mbCt) (nb : Int) (j : Int) : Int := (c9 (j % 100 / 10 + ct (nb + 2) (j / 100)) * 10 + c9 (j % 100 % 10 + ct (nb + 3) (j / 100))) * 7 + 0
def tF (ct : mbCt) (nb N : Int) : Int → Int := fun j => if 0 ≤ j ∧ j < N then trnF ct nb j else ct 74 j
theorem codeL_mem {f : Int → Int} : ∀ (n : Nat) (i op : Int), op ∈ codeL f i n → ∃ j, i ≤ j ∧ j < i + n ∧ f j = op
  | 0, i, op, h => by cases h
  | n + 1, i, op, h => by
    rcases List.mem_cons.mp h with h | h
    · exact ⟨i, by omega, by omega, h.symm⟩
    · obtain ⟨j, h1, h2, h3⟩ := codeL_mem n (i + 1) op h
      exact ⟨j, by omega, by omega, h3⟩
set_option maxRecDepth 4000 in
theorem c_settle {nb : Int} (S : SH sh) (L : LK ct) (hb : bkN nb) (f0 : 0 ≤ ct nb 7) (f1 : ct nb 7 ≤ ct nb 8) (f2 : ct nb 8 ≤ 900) (hcode : ∀ j, 0 ≤ j → j < 900 → -32768 ≤ ct (nb + 4) j ∧ ct (nb + 4) j < 32768) (s0 : 0 ≤ ct nb 3) (s1 : ct nb 3 ≤ 8) (ht : ∀ s, 0 ≤ s → s < 8 → (-9 ≤ ct (nb + 2) s ∧ ct (nb + 2) s ≤ 9) ∧ -9 ≤ ct (nb + 3) s ∧ ct (nb + 3) s ≤ 9) : Mt YX4_settle (d + 2) [.inr (.inr 70), .inr (.inr nb)] sh sh ct (pN fun c => settleC ct nb c) := by
  have bne : nb ≠ 70 ∧ nb + 4 ≠ 70 ∧ nb + 2 ≠ 70 ∧ nb + 3 ≠ 70 ∧ nb ≠ 74 ∧ nb + 2 ≠ 74 ∧ nb + 3 ≠ 74 := by rcases hb with rfl | rfl <;> decide
  obtain ⟨b1, b2, b3, b4, b5, b6, b7, b8, b9⟩ := bk_at S L hb
  have s74 : shA sh 74 = some (20, 800) := S.at _ rfl
  generalize hP : (pN fun c => settleC ct nb c) = Po
  -- the store once the first loop is through
  have last : ∀ a : Int, (a = 0 ∨ a = 1) → (a = 0 → noLast ct nb) → ∀ (N : Int) (o3 o4 o5 : Option gV), N = ct nb 3 * 100 → G (mkK YX4_settle (d + 2) sh sh Po) 153 [some (.inr (.inr 70)), some (.inr (.inr nb)), some (.inl (ct nb 3)), o3, o4, o5] [] sh (wa (wr (wr ct 70 0 nb) 70 6 a) 74 (tF ct nb N)) := by
    intro a ha1 ha2 N o3 o4 o5 hN
    have l1 : wa (wr (wr ct 70 0 nb) 70 6 a) 74 (tF ct nb N) 70 3 = 72 := by rw [wa_na (by decide), wr_nk (by decide), wr_nk (by decide)]; exact L.at _ _ rfl
    refine g_aload_n (q := 154) dX4_settle_153 rfl rfl ?_
    refine g_getA (q := 157) (kI := 3) fX4_15 (by first | assumption | exact S.at _ rfl) dX4_settle_154 rfl rfl (by first | assumption | exact L.at _ _ rfl | exact LK.at (by assumption) _ _ rfl | ((repeat first | rewrite [wr_na (by decide)] | rewrite [wr_nk (by decide)] | rewrite [wa_na (by decide)]); first | assumption | exact LK.at (by assumption) _ _ rfl) | exact rfl) ?_
    refine g_lconst0 (q := 158) dX4_settle_157 rfl ?_
    refine g_callS (q := 161) lX4_74 mJ7_fill_d0a16 sJ7_fill_d0a16 rfl (c_fillL (d + 1) sh _ (S.at 72 rfl) (by decide)) shLe.rf (rmOk.mk (by omega) (by first | exact shLe.rf | assumption)) (Nat.le_of_ble_eq_true rfl) dX4_settle_158 rfl rfl (kN fun c hp => ?_)
    subst hp
    have l2 : ∀ f, wa (wa (wr (wr ct 70 0 nb) 70 6 a) 74 (tF ct nb N)) 72 f 70 4 = 73 := fun f => by rw [wa_na (by decide), wa_na (by decide), wr_nk (by decide), wr_nk (by decide)]; exact L.at _ _ rfl
    refine g_aload_n (q := 162) dX4_settle_161 rfl rfl ?_
    refine g_getA (q := 165) (kI := 4) fX4_19 (by first | assumption | exact S.at _ rfl) dX4_settle_162 rfl rfl (l2 _) ?_
    refine g_iconst (q := 166) dX4_settle_165 rfl ?_
    refine g_callS (q := 169) lX4_80 mJ7_fill_031fb sJ7_fill_031fb rfl (c_fillB (d + 1) sh _ (S.at 73 rfl) (by decide) rfl) shLe.rf (rmOk.mk (by omega) (by first | exact shLe.rf | assumption)) (Nat.le_of_ble_eq_true rfl) dX4_settle_166 rfl rfl (kN fun c hp => ?_)
    subst hp
    refine g_aload_n (q := 170) dX4_settle_169 rfl rfl ?_
    refine g_dup (q := 171) dX4_settle_170 rfl rfl ?_
    refine g_getI (q := 174) (kI := 7) fX4_83 (by first | assumption | exact S.at _ rfl) dX4_settle_171 rfl rfl ?_
    refine g_iconst (q := 175) dX4_settle_174 rfl ?_
    refine g_iadd (q := 176) dX4_settle_175 rfl ?_
    refine g_putI (q := 179) (kI := 7) fX4_83 (by first | assumption | exact S.at _ rfl) dX4_settle_176 rfl rfl ?_
    refine g_return dX4_settle_179 rfl ?_
    rw [← hP]
    refine ⟨rfl, ?_, ?_, ?_, ?_, ?_, ?_, ?_, ?_⟩
    · exact ((((((eqBut.rf.wr (by decide)).wr (by decide)).wa (by decide)).wa (by decide)).wa (by decide))).wr (by decide)
    · rw [wr_nk (by decide), wa_na (by decide), wa_na (by decide), wa_na (by decide), wr_nk (by decide), wr_eq]
    · rw [wr_nk (by decide), wa_na (by decide), wa_na (by decide), wa_na (by decide), wr_eq]
      exact ha1
    · rw [wr_nk (by decide), wa_na (by decide), wa_na (by decide), wa_na (by decide), wr_eq]
      exact ha2
    · rw [wr_eq, wa_na (by decide), wa_na (by decide), wa_na (by decide), wr_nk (by decide), wr_nk (by decide)]
    · intro k k0 k6 k7
      rw [wr_nk k7, wa_na (by decide), wa_na (by decide), wa_na (by decide), wr_nk k6, wr_nk k0]
    · intro k k0 k1
      refine ⟨?_, ?_⟩
      · rw [wr_na (by decide), wa_na (by decide), wa_eq]
        unfold flF
        rw [if_pos (by omega)]
      · rw [wr_na (by decide), wa_eq]
        unfold flF
        rw [if_pos (by omega)]
    · intro s o g0 g1 g2 g3
      have q1 : ∀ (f1 f2 : Int → Int) (v : Int) x j, x ≠ 70 → x ≠ 72 → x ≠ 73 → x ≠ 74 → wr (wa (wa (wa (wr (wr ct 70 0 nb) 70 6 a) 74 (tF ct nb N)) 72 f1) 73 f2) 70 7 v x j = ct x j := by
        intro f1 f2 v x j x1 x2 x3 x4
        rw [wr_na x1, wa_na x3, wa_na x2, wa_na x4, wr_na x1, wr_na x1]
      have n72 : nb ≠ 72 ∧ nb ≠ 73 ∧ nb + 2 ≠ 72 ∧ nb + 2 ≠ 73 ∧ nb + 3 ≠ 72 ∧ nb + 3 ≠ 73 := by rcases hb with rfl | rfl <;> decide
      have g1' : s < ct nb 3 := by
        rw [q1 _ _ _ nb 3 bne.1 n72.1 n72.2.1 bne.2.2.2.2.1] at g1
        exact g1
      rw [q1 _ _ _ (nb + 2) s bne.2.2.1 n72.2.2.1 n72.2.2.2.1 bne.2.2.2.2.2.1, q1 _ _ _ (nb + 3) s bne.2.2.2.1 n72.2.2.2.2.1 n72.2.2.2.2.2 bne.2.2.2.2.2.2]
      rw [wr_na (by decide), wa_na (by decide), wa_na (by decide), wa_eq]
      unfold tF trnF
      rw [if_pos (by omega), show (s * 100 + o) % 100 = o by omega, show (s * 100 + o) / 100 = s by omega]
      omega
  have turn : ∀ a : Int, (a = 0 ∨ a = 1) → (a = 0 → noLast ct nb) → G (mkK YX4_settle (d + 2) sh sh Po) 63 [some (.inr (.inr 70)), some (.inr (.inr nb)), none, none, none, none] [] sh (wr (wr ct 70 0 nb) 70 6 a) := by
    intro a ha1 ha2
    have loop2 : ∀ (k : Nat) (s : Int) (o3 o4 o5 : Option gV), s + k = ct nb 3 → 0 ≤ s → G (mkK YX4_settle (d + 2) sh sh Po) 65 [some (.inr (.inr 70)), some (.inr (.inr nb)), some (.inl s), o3, o4, o5] [] sh (wa (wr (wr ct 70 0 nb) 70 6 a) 74 (tF ct nb (s * 100))) := by
      intro k
      induction k with
      | zero =>
        intro s o3 o4 o5 hs hs0
        have lb : wa (wr (wr ct 70 0 nb) 70 6 a) 74 (tF ct nb (s * 100)) 70 0 = nb := by rw [wa_na (by decide), wr_nk (by decide), wr_eq]
        refine g_iload_n (q := 66) dX4_settle_65 rfl rfl ?_
        refine g_aload_n (q := 67) dX4_settle_66 rfl rfl ?_
        refine g_getO (q := 70) (kI := 0) fX4_32 (by first | assumption | exact S.at _ rfl) dX4_settle_67 rfl rfl (by first | assumption | exact L.at _ _ rfl | exact LK.at (by assumption) _ _ rfl | ((repeat first | rewrite [wr_na (by decide)] | rewrite [wr_nk (by decide)] | rewrite [wa_na (by decide)]); first | assumption | exact LK.at (by assumption) _ _ rfl) | exact rfl) ?_
        refine g_getI (q := 73) (kI := 3) fX4_57 (by first | assumption | exact S.at _ rfl) dX4_settle_70 rfl rfl ?_
        rw [wa_na bne.2.2.2.2.1, wr_na bne.1, wr_na bne.1]
        refine g_icmp_ge (q := 76) (tg := 153) dX4_settle_73 (by decide) rfl (fun c_73 => ?_) (fun c_73 => ?_)
        · have e : s = ct nb 3 := by omega
          subst e
          exact last a ha1 ha2 _ o3 o4 o5 rfl
        · exact absurd c_73 (by unfold w32; omega)
      | succ k ih =>
        intro s o3 o4 o5 hs hs0
        have hts := ht s hs0 (by omega)
        have loop3 : ∀ (k3 : Nat) (o : Int) (o4 o5 : Option gV), o + k3 = 100 → 0 ≤ o → G (mkK YX4_settle (d + 2) sh sh Po) 78 [some (.inr (.inr 70)), some (.inr (.inr nb)), some (.inl s), some (.inl o), o4, o5] [] sh (wa (wr (wr ct 70 0 nb) 70 6 a) 74 (tF ct nb (s * 100 + o))) := by
          intro k3
          induction k3 with
          | zero =>
            intro o o4 o5 ho ho0
            refine g_iload_n (q := 79) dX4_settle_78 rfl rfl ?_
            refine g_bipush (q := 81) dX4_settle_79 (by decide +kernel) rfl ?_
            refine g_icmp_ge (q := 84) (tg := 147) dX4_settle_81 (by decide) rfl (fun c_81 => ?_) (fun c_81 => ?_)
            · refine s_iinc_6_2 (q := 150) dX4_settle_147 rfl rfl rfl ?_
              refine g_goto (q := 65) dX4_settle_150 (by decide) ?_
              have := ih (s + 1) (some (.inl o)) o4 o5 (by omega) (by omega)
              rw [show (s + 1) * 100 = s * 100 + o by omega] at this
              exact this
            · exact absurd c_81 (by unfold w32; omega)
          | succ k3 ih3 =>
            intro o o4 o5 ho ho0
            generalize hcc : wa (wr (wr ct 70 0 nb) 70 6 a) 74 (tF ct nb (s * 100 + o)) = cc
            have lb : cc 70 0 = nb := by rw [← hcc, wa_na (by decide), wr_nk (by decide), wr_eq]
            have lt : cc nb 12 = nb + 2 := by rw [← hcc, wa_na bne.2.2.2.2.1, wr_na bne.1, wr_na bne.1]; exact b7
            have lh : cc nb 13 = nb + 3 := by rw [← hcc, wa_na bne.2.2.2.2.1, wr_na bne.1, wr_na bne.1]; exact b8
            have l5 : cc 70 5 = 74 := by rw [← hcc, wa_na (by decide), wr_nk (by decide), wr_nk (by decide)]; exact L.at _ _ rfl
            have vt : cc (nb + 2) s = ct (nb + 2) s := by rw [← hcc, wa_na bne.2.2.2.2.2.1, wr_na bne.2.2.1, wr_na bne.2.2.1]
            have vh : cc (nb + 3) s = ct (nb + 3) s := by rw [← hcc, wa_na bne.2.2.2.2.2.2, wr_na bne.2.2.2.1, wr_na bne.2.2.2.1]
            have e1 : (w32 o).tdiv (w32 10) = o / 10 := by rw [w32_id (by omega) (by omega), td_pos ho0]; rfl
            have e2 : (w32 o).tmod (w32 10) = o % 10 := by rw [w32_id (by omega) (by omega), tm_pos ho0]; rfl
            refine g_iload_n (q := 79) dX4_settle_78 rfl rfl ?_
            refine g_bipush (q := 81) dX4_settle_79 (by decide +kernel) rfl ?_
            refine g_icmp_ge (q := 84) (tg := 147) dX4_settle_81 (by decide) rfl (fun c_81 => ?_) (fun c_81 => ?_)
            · exact absurd c_81 (by unfold w32; omega)
            · refine g_iload_n (q := 85) dX4_settle_84 rfl rfl ?_
              refine g_bipush (q := 87) dX4_settle_85 (by decide +kernel) rfl ?_
              refine g_idiv (q := 88) dX4_settle_87 (by decide) rfl ?_
              rw [e1]
              refine g_aload_n (q := 89) dX4_settle_88 rfl rfl ?_
              refine g_getO (q := 92) (kI := 0) fX4_32 (by first | assumption | exact S.at _ rfl) dX4_settle_89 rfl rfl (by first | assumption | exact L.at _ _ rfl | exact LK.at (by assumption) _ _ rfl | ((repeat first | rewrite [wr_na (by decide)] | rewrite [wr_nk (by decide)] | rewrite [wa_na (by decide)]); first | assumption | exact LK.at (by assumption) _ _ rfl) | exact rfl) ?_
              refine g_getA (q := 95) (kI := 12) fX4_60 (by first | assumption | exact S.at _ rfl) dX4_settle_92 rfl rfl (by first | assumption | exact L.at _ _ rfl | exact LK.at (by assumption) _ _ rfl | ((repeat first | rewrite [wr_na (by decide)] | rewrite [wr_nk (by decide)] | rewrite [wa_na (by decide)]); first | assumption | exact LK.at (by assumption) _ _ rfl) | exact rfl) ?_
              refine g_iload_n (q := 96) dX4_settle_95 rfl rfl ?_
              refine g_iaload (q := 97) (by first | assumption | exact S.at _ rfl) (by omega) (by omega) (by omega) dX4_settle_96 rfl ?_
              rw [vt]
              refine g_iadd (q := 98) dX4_settle_97 rfl ?_
              refine g_callS (q := 101) lX4_63 mX4_within sX4_within rfl (c_within d sh cc (x := o / 10 + ct (nb + 2) s) (by omega) (by omega)) shLe.rf (rmOk.mk (by omega) (by first | exact shLe.rf | assumption)) (Nat.le_of_ble_eq_true rfl) dX4_settle_98 rfl rfl (kI fun r c hp => ?_)
              obtain ⟨rfl, rfl⟩ := hp
              refine s_istore_6_4 (q := 103) dX4_settle_101 rfl rfl rfl ?_
              refine g_iload_n (q := 104) dX4_settle_103 rfl rfl ?_
              refine g_bipush (q := 106) dX4_settle_104 (by decide +kernel) rfl ?_
              refine g_irem (q := 107) dX4_settle_106 (by decide) rfl ?_
              rw [e2]
              refine g_aload_n (q := 108) dX4_settle_107 rfl rfl ?_
              refine g_getO (q := 111) (kI := 0) fX4_32 (by first | assumption | exact S.at _ rfl) dX4_settle_108 rfl rfl (by first | assumption | exact L.at _ _ rfl | exact LK.at (by assumption) _ _ rfl | ((repeat first | rewrite [wr_na (by decide)] | rewrite [wr_nk (by decide)] | rewrite [wa_na (by decide)]); first | assumption | exact LK.at (by assumption) _ _ rfl) | exact rfl) ?_
              refine g_getA (q := 114) (kI := 13) fX4_67 (by first | assumption | exact S.at _ rfl) dX4_settle_111 rfl rfl (by first | assumption | exact L.at _ _ rfl | exact LK.at (by assumption) _ _ rfl | ((repeat first | rewrite [wr_na (by decide)] | rewrite [wr_nk (by decide)] | rewrite [wa_na (by decide)]); first | assumption | exact LK.at (by assumption) _ _ rfl) | exact rfl) ?_
              refine g_iload_n (q := 115) dX4_settle_114 rfl rfl ?_
              refine g_iaload (q := 116) (by first | assumption | exact S.at _ rfl) (by omega) (by omega) (by omega) dX4_settle_115 rfl ?_
              rw [vh]
              refine g_iadd (q := 117) dX4_settle_116 rfl ?_
              refine g_callS (q := 120) lX4_63 mX4_within sX4_within rfl (c_within d sh c (x := o % 10 + ct (nb + 3) s) (by omega) (by omega)) shLe.rf (rmOk.mk (by omega) (by first | exact shLe.rf | assumption)) (Nat.le_of_ble_eq_true rfl) dX4_settle_117 rfl rfl (kI fun r c2 hp => ?_)
              obtain ⟨rfl, rfl⟩ := hp
              refine s_istore_6_5 (q := 122) dX4_settle_120 rfl rfl rfl ?_
              refine g_aload_n (q := 123) dX4_settle_122 rfl rfl ?_
              refine g_getA (q := 126) (kI := 5) fX4_23 (by first | assumption | exact S.at _ rfl) dX4_settle_123 rfl rfl (by first | assumption | exact L.at _ _ rfl | exact LK.at (by assumption) _ _ rfl | ((repeat first | rewrite [wr_na (by decide)] | rewrite [wr_nk (by decide)] | rewrite [wa_na (by decide)]); first | assumption | exact LK.at (by assumption) _ _ rfl) | exact rfl) ?_
              refine g_iload_n (q := 127) dX4_settle_126 rfl rfl ?_
              refine g_bipush (q := 129) dX4_settle_127 (by decide +kernel) rfl ?_
              refine g_imul (q := 130) dX4_settle_129 rfl ?_
              refine g_iload_n (q := 131) dX4_settle_130 rfl rfl ?_
              refine g_iadd (q := 132) dX4_settle_131 rfl ?_
              refine g_iload (q := 134) dX4_settle_132 rfl rfl ?_
              refine g_iload (q := 136) dX4_settle_134 rfl rfl ?_
              refine g_iconst (q := 137) dX4_settle_136 rfl ?_
              refine g_callSN (q := 140) lX4_70 mX11_stateOf sX11_stateOf rfl (c_stateOf d sh c2) shLe.rf (rmOk.mk (by omega) (by first | exact shLe.rf | assumption)) (Nat.le_of_ble_eq_true rfl) dX4_settle_137 rfl rfl (kI fun r c3 hp => ?_)
              obtain ⟨rfl, rfl⟩ := hp
              refine g_iastore (q := 141) (by first | assumption | exact S.at _ rfl) (by omega) (by omega) (by omega) dX4_settle_140 rfl ?_
              have hst : wr c3 74 (s * 100 + o) ((c9 (o / 10 + ct (nb + 2) s) * 10 + c9 (o % 10 + ct (nb + 3) s)) * 7 + 0) = wa (wr (wr ct 70 0 nb) 70 6 a) 74 (tF ct nb (s * 100 + (o + 1))) := by
                rw [← hcc]
                funext x j
                unfold wr wa tF
                by_cases hx : x = 74
                · subst hx
                  by_cases hj : j = s * 100 + o
                  · subst hj
                    rw [if_pos ⟨rfl, rfl⟩, if_pos rfl, if_pos (by omega)]
                    unfold trnF
                    rw [show (s * 100 + o) % 100 = o by omega, show (s * 100 + o) / 100 = s by omega]
                  · rw [if_neg (fun z => hj z.2), if_pos rfl, if_pos rfl]
                    by_cases h2 : 0 ≤ j ∧ j < s * 100 + o
                    · rw [if_pos h2, if_pos (by omega)]
                    · rw [if_neg h2, if_neg (by omega)]
                · rw [if_neg (fun z => hx z.1), if_neg hx, if_neg hx]
              rw [hst]
              refine s_iinc_6_3 (q := 144) dX4_settle_141 rfl rfl rfl ?_
              refine g_goto (q := 78) dX4_settle_144 (by decide) ?_
              exact ih3 (o + 1) _ _ (by omega) (by omega)
        have lb : wa (wr (wr ct 70 0 nb) 70 6 a) 74 (tF ct nb (s * 100)) 70 0 = nb := by rw [wa_na (by decide), wr_nk (by decide), wr_eq]
        refine g_iload_n (q := 66) dX4_settle_65 rfl rfl ?_
        refine g_aload_n (q := 67) dX4_settle_66 rfl rfl ?_
        refine g_getO (q := 70) (kI := 0) fX4_32 (by first | assumption | exact S.at _ rfl) dX4_settle_67 rfl rfl (by first | assumption | exact L.at _ _ rfl | exact LK.at (by assumption) _ _ rfl | ((repeat first | rewrite [wr_na (by decide)] | rewrite [wr_nk (by decide)] | rewrite [wa_na (by decide)]); first | assumption | exact LK.at (by assumption) _ _ rfl) | exact rfl) ?_
        refine g_getI (q := 73) (kI := 3) fX4_57 (by first | assumption | exact S.at _ rfl) dX4_settle_70 rfl rfl ?_
        rw [wa_na bne.2.2.2.2.1, wr_na bne.1, wr_na bne.1]
        refine g_icmp_ge (q := 76) (tg := 153) dX4_settle_73 (by decide) rfl (fun c_73 => ?_) (fun c_73 => ?_)
        · exact absurd c_73 (by unfold w32; omega)
        · refine g_iconst (q := 77) dX4_settle_76 rfl ?_
          refine s_istore_n_6_3 (q := 78) dX4_settle_77 rfl rfl rfl ?_
          have := loop3 100 0 o4 o5 (by omega) (by omega)
          rw [show s * 100 + 0 = s * 100 by omega] at this
          exact this
    refine g_iconst (q := 64) dX4_settle_63 rfl ?_
    refine s_istore_n_6_2 (q := 65) dX4_settle_64 rfl rfl rfl ?_
    have h := loop2 (ct nb 3).toNat 0 none none none (by omega) (by omega)
    have e : wa (wr (wr ct 70 0 nb) 70 6 a) 74 (tF ct nb (0 * 100)) = wr (wr ct 70 0 nb) 70 6 a := by
      funext x j
      unfold wa tF
      by_cases hx : x = 74
      · subst hx
        rw [if_pos rfl, if_neg (by omega), wr_na (by decide), wr_na (by decide)]
      · rw [if_neg hx]
    rw [e] at h
    exact h
  have loop1 : ∀ (k : Nat) (i a : Int), i + k = ct nb 8 → ct nb 7 ≤ i → (a = 0 ∨ a = 1) → (a = 0 → ∀ j, ct nb 7 ≤ j → j < i → ct (nb + 4) j ≠ -3) → G (mkK YX4_settle (d + 2) sh sh Po) 18 [some (.inr (.inr 70)), some (.inr (.inr nb)), some (.inl i), none, none, none] [] sh (wr (wr ct 70 0 nb) 70 6 a) := by
    intro k
    induction k with
    | zero =>
      intro i a hi hi0 ha1 ha2
      have lb : wr (wr ct 70 0 nb) 70 6 a 70 0 = nb := by rw [wr_nk (by decide), wr_eq]
      refine g_iload_n (q := 19) dX4_settle_18 rfl rfl ?_
      refine g_aload_n (q := 20) dX4_settle_19 rfl rfl ?_
      refine g_getO (q := 23) (kI := 0) fX4_32 (by first | assumption | exact S.at _ rfl) dX4_settle_20 rfl rfl (by first | assumption | exact L.at _ _ rfl | exact LK.at (by assumption) _ _ rfl | ((repeat first | rewrite [wr_na (by decide)] | rewrite [wr_nk (by decide)] | rewrite [wa_na (by decide)]); first | assumption | exact LK.at (by assumption) _ _ rfl) | exact rfl) ?_
      refine g_getI (q := 26) (kI := 8) fX4_50 (by first | assumption | exact S.at _ rfl) dX4_settle_23 rfl rfl ?_
      rw [wr_na bne.1, wr_na bne.1]
      refine g_icmp_ge (q := 29) (tg := 63) dX4_settle_26 (by decide) rfl (fun c_26 => ?_) (fun c_26 => ?_)
      · refine g_fg (ls' := [some (.inr (.inr 70)), some (.inr (.inr nb)), none, none, none, none]) ?_ (turn a ha1 ?_)
        · simp [lsSub]
        · intro h op hop
          obtain ⟨j, j1, j2, rfl⟩ := codeL_mem _ _ _ hop
          exact ha2 h j j1 (by omega)
      · exact absurd c_26 (by unfold w32; omega)
    | succ k ih =>
      intro i a hi hi0 ha1 ha2
      have lb : wr (wr ct 70 0 nb) 70 6 a 70 0 = nb := by rw [wr_nk (by decide), wr_eq]
      have l6 : wr (wr ct 70 0 nb) 70 6 a 70 6 = a := wr_eq
      have lc : wr (wr ct 70 0 nb) 70 6 a nb 14 = nb + 4 := by rw [wr_na bne.1, wr_na bne.1]; exact b9
      have vc : wr (wr ct 70 0 nb) 70 6 a (nb + 4) i = ct (nb + 4) i := by rw [wr_na bne.2.1, wr_na bne.2.1]
      have hci := hcode i (by omega) (by omega)
      have fin : ∀ e : Int, (e = 0 ∨ e = 1) → (e = 0 → ct (nb + 4) i ≠ -3) → G (mkK YX4_settle (d + 2) sh sh Po) 53 [some (.inr (.inr 70)), some (.inr (.inr nb)), some (.inl i), none, none, none] [.inl e, .inl a, .inr (.inr 70)] sh (wr (wr ct 70 0 nb) 70 6 a) := by
        intro e he1 he2
        have hor := (and01 ha1 he1).2
        have hb01 : b01 (a = 1 ∨ e = 1) = 0 ∨ b01 (a = 1 ∨ e = 1) = 1 := b01_in _
        have hw2 : wr (wr (wr ct 70 0 nb) 70 6 a) 70 6 (b01 (a = 1 ∨ e = 1)) = wr (wr ct 70 0 nb) 70 6 (b01 (a = 1 ∨ e = 1)) := by
          funext x j
          unfold wr
          grind
        refine g_ior (q := 54) dX4_settle_53 rfl ?_
        rw [hor]
        refine g_putZ (q := 57) (kI := 6) fX4_40 (by first | assumption | exact S.at _ rfl) (by first | exact Or.inl rfl | exact Or.inr rfl | assumption) dX4_settle_54 rfl rfl ?_
        rw [hw2]
        refine s_iinc_6_2 (q := 60) dX4_settle_57 rfl rfl rfl ?_
        refine g_goto (q := 18) dX4_settle_60 (by decide) ?_
        refine ih (i + 1) _ (by omega) (by omega) hb01 ?_
        intro h j j1 j2
        have hn : ¬ (a = 1 ∨ e = 1) := by
          intro hh
          rw [← b01_t hh] at h
          cases h
        by_cases hj : j = i
        · subst hj
          exact he2 (by omega)
        · exact ha2 (by omega) j j1 (by omega)
      refine g_iload_n (q := 19) dX4_settle_18 rfl rfl ?_
      refine g_aload_n (q := 20) dX4_settle_19 rfl rfl ?_
      refine g_getO (q := 23) (kI := 0) fX4_32 (by first | assumption | exact S.at _ rfl) dX4_settle_20 rfl rfl (by first | assumption | exact L.at _ _ rfl | exact LK.at (by assumption) _ _ rfl | ((repeat first | rewrite [wr_na (by decide)] | rewrite [wr_nk (by decide)] | rewrite [wa_na (by decide)]); first | assumption | exact LK.at (by assumption) _ _ rfl) | exact rfl) ?_
      refine g_getI (q := 26) (kI := 8) fX4_50 (by first | assumption | exact S.at _ rfl) dX4_settle_23 rfl rfl ?_
      rw [wr_na bne.1, wr_na bne.1]
      refine g_icmp_ge (q := 29) (tg := 63) dX4_settle_26 (by decide) rfl (fun c_26 => ?_) (fun c_26 => ?_)
      · exact absurd c_26 (by unfold w32; omega)
      · refine g_aload_n (q := 30) dX4_settle_29 rfl rfl ?_
        refine g_dup (q := 31) dX4_settle_30 rfl rfl ?_
        refine g_getZ (q := 34) (kI := 6) fX4_40 (by first | assumption | exact S.at _ rfl) dX4_settle_31 rfl rfl ?_
        rw [l6]
        refine g_aload_n (q := 35) dX4_settle_34 rfl rfl ?_
        refine g_getO (q := 38) (kI := 0) fX4_32 (by first | assumption | exact S.at _ rfl) dX4_settle_35 rfl rfl (by first | assumption | exact L.at _ _ rfl | exact LK.at (by assumption) _ _ rfl | ((repeat first | rewrite [wr_na (by decide)] | rewrite [wr_nk (by decide)] | rewrite [wa_na (by decide)]); first | assumption | exact LK.at (by assumption) _ _ rfl) | exact rfl) ?_
        refine g_getA (q := 41) (kI := 14) fX4_53 (by first | assumption | exact S.at _ rfl) dX4_settle_38 rfl rfl (by first | assumption | exact L.at _ _ rfl | exact LK.at (by assumption) _ _ rfl | ((repeat first | rewrite [wr_na (by decide)] | rewrite [wr_nk (by decide)] | rewrite [wa_na (by decide)]); first | assumption | exact LK.at (by assumption) _ _ rfl) | exact rfl) ?_
        refine g_iload_n (q := 42) dX4_settle_41 rfl rfl ?_
        refine g_saload (q := 43) (by first | assumption | exact S.at _ rfl) (by omega) (by omega) (by omega) dX4_settle_42 rfl ?_
        rw [vc]
        refine g_bipush (q := 45) dX4_settle_43 (by decide +kernel) rfl ?_
        refine g_icmp_ne (q := 48) (tg := 52) dX4_settle_45 (by decide) rfl (fun c_45 => ?_) (fun c_45 => ?_)
        · refine g_iconst (q := 53) dX4_settle_52 rfl ?_
          exact fin 0 (Or.inl rfl) (fun _ => by unfold w32 at c_45; omega)
        · refine g_iconst (q := 49) dX4_settle_48 rfl ?_
          refine g_goto (q := 53) dX4_settle_49 (by decide) ?_
          exact fin 1 (Or.inr rfl) (fun h => by cases h)
  refine Mt.of rfl (Nat.le_of_ble_eq_true rfl) ?_
  show G _ 0 [some (.inr (.inr 70)), some (.inr (.inr nb)), none, none, none, none] [] sh ct
  have lb : wr (wr ct 70 0 nb) 70 6 0 70 0 = nb := by rw [wr_nk (by decide), wr_eq]
  refine g_aload_n (q := 1) dX4_settle_0 rfl rfl ?_
  refine g_aload_n (q := 2) dX4_settle_1 rfl rfl ?_
  refine g_putO (q := 5) (kI := 0) fX4_32 (by first | assumption | exact S.at _ rfl) dX4_settle_2 rfl rfl ?_
  refine g_aload_n (q := 6) dX4_settle_5 rfl rfl ?_
  refine g_iconst (q := 7) dX4_settle_6 rfl ?_
  refine g_putZ (q := 10) (kI := 6) fX4_40 (by first | assumption | exact S.at _ rfl) (by first | exact Or.inl rfl | exact Or.inr rfl | assumption) dX4_settle_7 rfl rfl ?_
  refine g_aload_n (q := 11) dX4_settle_10 rfl rfl ?_
  refine g_getO (q := 14) (kI := 0) fX4_32 (by first | assumption | exact S.at _ rfl) dX4_settle_11 rfl rfl (by first | assumption | exact L.at _ _ rfl | exact LK.at (by assumption) _ _ rfl | ((repeat first | rewrite [wr_na (by decide)] | rewrite [wr_nk (by decide)] | rewrite [wa_na (by decide)]); first | assumption | exact LK.at (by assumption) _ _ rfl) | exact rfl) ?_
  refine g_getI (q := 17) (kI := 7) fX4_44 (by first | assumption | exact S.at _ rfl) dX4_settle_14 rfl rfl ?_
  rw [wr_na bne.1, wr_na bne.1]
  refine s_istore_n_6_2 (q := 18) dX4_settle_17 rfl rfl rfl ?_
  exact loop1 (ct nb 8 - ct nb 7).toNat (ct nb 7) 0 (by omega) (by omega) (Or.inl rfl) (fun _ j j1 j2 => by omega)
end
