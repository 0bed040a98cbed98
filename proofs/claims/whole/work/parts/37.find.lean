/-! Ways: find -/
def goalW (β : Bk) (tone w : Int) (x : Int × Int) : Prop := x.2 = w ∧ enB β x.1 tone = true
def U9 (c : mbCt) : Nat := (c 77 9 % 18446744073709551616).toNat
def rclr (c : mbCt) : Prop := ∀ (st : Int) (sp : Nat), 0 ≤ st → st < 700 → sp < 64 → rbit c st sp = false
/-- what was found is right for what was searched for -/
def WD (c : mbCt) (q : Int) (N : Nat) (β : Bk) (mk : Int → Int) : Prop := ∃ n f : Nat, c 77 2 = n ∧ n ≤ N ∧ (∀ j : Nat, j < n → 0 ≤ c q j ∧ c q j < 2147483648 ∧ c q j % 1024 < 700) ∧ BF (scW β mk (U9 c) (c 77 10) (c 77 11)) (c 77 7, 0) (ndQ c q) (prQ c q) n f [] ∧ (∀ j, j < f → ¬ goalW β (c 77 8) (c 77 11) (ndQ c q j)) ∧ ((f < n ∧ goalW β (c 77 8) (c 77 11) (ndQ c q f) ∧ c 77 4 = f ∧ c 77 5 = (dep (prQ c q) f : Nat)) ∨ (f = n ∧ c 77 4 = -1 ∧ c 77 5 = -1))
def FPost (c0 : mbCt) (b : Int) (β : Bk) (mk : Int → Int) (q : Int) (N : Nat) (c : mbCt) : Prop := eqBq [68, 69, 72, 73, 75, 76, 77, 79] q c0 c ∧ MV c b β mk ∧ (∀ k, k ≠ 2 → k ≠ 4 → k ≠ 5 → c 77 k = c0 77 k) ∧ rclr c ∧ WD c q N β mk
def FI (c0 : mbCt) (b : Int) (β : Bk) (mk : Int → Int) (q : Int) (N : Nat) (sc : Int × Int → List (Nat × (Int × Int))) (s0 : Int × Int) (ok goal : Int × Int → Prop) (n i : Nat) (c : mbCt) : Prop := eqBq [68, 69, 72, 73, 75, 76, 77, 79] q c0 c ∧ MV c b β mk ∧ (∀ k, k ≠ 2 → k ≠ 4 → c 77 k = c0 77 k) ∧ c 77 4 = -1 ∧ QI c q N n ∧ BF sc s0 (ndQ c q) (prQ c q) n i [] ∧ (∀ j, j < n → ok (ndQ c q j)) ∧ i ≤ n ∧ ∀ j, j < i → ¬ goal (ndQ c q j)
theorem rbit_0 {c : mbCt} {st : Int} (h : c 79 st = 0) (sp : Nat) : rbit c st sp = false := by
  unfold rbit
  rw [h]
  show Nat.testBit 0 sp = false
  exact Nat.zero_testBit sp
theorem QI.mv {c c2 : mbCt} {q : Int} {N n : Nat} (h : QI c q N n) (e77 : c2 77 = c 77) (eq : c2 q = c q) (e79 : c2 79 = c 79) : QI c2 q N n := by
  obtain ⟨h1, h2, h3, h4, h5⟩ := h
  refine ⟨by rw [e77]; exact h1, by rw [e77]; exact h2, h3, by rw [eq]; exact h4, ?_⟩
  intro st sp a0 a1 a2
  unfold rbit ndQ
  rw [e79, eq]
  exact h5 st sp a0 a1 a2
theorem MV.w {ct c : mbCt} {b : Int} {β : Bk} {mk : Int → Int} (h : MV ct b β mk) {k v : Int} (hk : lkF 77 k = none) (e : c = wr ct 77 k v) : MV c b β mk := by
  subst e
  refine h.q (q := 78) (Or.inl rfl) (eqBq.rf.wr (Or.inl (by decide))) ?_
  intro k2 v2 hv
  have h2 : k2 ≠ k := fun e => by rw [e, hk] at hv; cases hv
  rw [wr_nk h2]
  exact h.L 77 k2 v2 hv
section
variable (d : Nat) (sh0 sh : mbSh) (c0 : mbCt)
theorem g_find {q b from' tone use cap w : Int} {β : Bk} {mk : Int → Int} {N : Nat} {ok : Int × Int → Prop} {Po : Option gV → mbCt → Prop} (S : SH sh) (M : MV c0 b β mk) (hqn : qcN q) (sq : shA sh q = some (20, N)) (hN0 : 700 ≤ N) (hN : N ≤ 19201) (h1 : c0 77 1 = q) (h7 : c0 77 7 = from') (f0 : 0 ≤ from') (f1 : from' < 700) (h8 : c0 77 8 = tone) (t0 : -1 ≤ tone) (t1 : tone ≤ 10) (h10 : c0 77 10 = cap) (hc0 : 0 ≤ cap) (hc1 : cap ≤ 9) (hcool : coolB cap from' = true) (h11 : c0 77 11 = w) (hw0 : 0 ≤ w) (hw1 : w < 64) (hr : rclr c0) (hok0 : ok (from', 0)) (hst : ∀ x, ok x → ∀ p ∈ scW β mk (U9 c0) cap w x, ok p.2) (hcp : capOk ok N) (hPo : ∀ c, FPost c0 b β mk q N c → Po (some (.inl (c 77 5))) c) : G (mkK YX10_find (d + 4) sh0 sh Po) 104 [some (.inr (.inr 77)), some (.inl from'), some (.inl tone), some (.inr (.inl use)), none, some (.inl cap), some (.inl w), none] [] sh c0 := by
  have hle : shLe sh sh := shLe.rf
  have qn : ∀ x : Int, x < 78 → x ≠ q := fun x hx => by rcases hqn with h | h <;> omega
  have qn79 : (79 : Int) ≠ q := by rcases hqn with h | h <;> omega
  have q77 : q ≠ 77 := by rcases hqn with h | h <;> omega
  have q79 : q ≠ 79 := by rcases hqn with h | h <;> omega
  have qA : q ∉ ([68, 69, 72, 73, 75, 76] : List Int) := by rcases hqn with rfl | h; decide; simp; omega
  generalize hsc : scW β mk (U9 c0) cap w = sc at hst
  -- the end
  have fin : ∀ (c : mbCt) (n f : Nat) (o7 : Option gV), eqBq [68, 69, 72, 73, 75, 76, 77, 79] q c0 c → MV c b β mk → (∀ k, k ≠ 2 → k ≠ 4 → c 77 k = c0 77 k) → QI c q N n → BF sc (from', 0) (ndQ c q) (prQ c q) n f [] → (∀ j, j < f → ¬ goalW β tone w (ndQ c q j)) → ((f < n ∧ goalW β tone w (ndQ c q f) ∧ c 77 4 = f) ∨ (f = n ∧ c 77 4 = -1)) → G (mkK YX10_find (d + 4) sh0 sh Po) 208 [some (.inr (.inr 77)), some (.inl from'), some (.inl tone), some (.inr (.inl use)), none, some (.inl cap), some (.inl w), o7] [] sh c := by
    intro c n f o7 e1 e2 e3 e4 e5 e6 e7
    obtain ⟨q1, q2, q3, q4, q5⟩ := e4
    -- behind the cleaning
    have out : ∀ (c2 : mbCt) (o7 : Option gV), eqBut [79] c c2 → rclr c2 → G (mkK YX10_find (d + 4) sh0 sh Po) 238 [some (.inr (.inr 77)), some (.inl from'), some (.inl tone), some (.inr (.inl use)), none, some (.inl cap), some (.inl w), o7] [] sh c2 := by
      intro c2 o7 g1 g2
      have e77 : c2 77 = c 77 := g1 77 (by decide)
      have eq : c2 q = c q := g1 q (by simp; exact q79)
      have ML : MV c2 b β mk := e2.q hqn (fun x hx hq => g1 x (by simp at hx ⊢; exact hx.2)) (fun k v hv => by rw [e77]; exact e2.L 77 k v hv)
      have Lc := ML.L
      have last : ∀ v : Int, ((f < n ∧ v = (dep (prQ c q) f : Nat)) ∨ (f = n ∧ v = -1)) → G (mkK YX10_find (d + 4) sh0 sh Po) 259 [some (.inr (.inr 77)), some (.inl from'), some (.inl tone), some (.inr (.inl use)), none, some (.inl cap), some (.inl w), o7] [.inl v, .inr (.inr 77)] sh c2 := by
        intro v hv
        refine g_putI (q := 262) (kI := 5) fX10_23 (by first | assumption | exact S.at _ rfl) dX10_find_259 rfl rfl ?_
        refine g_aload_n (q := 263) dX10_find_262 rfl rfl ?_
        refine g_getI (q := 266) (kI := 5) fX10_23 (by first | assumption | exact S.at _ rfl) dX10_find_263 rfl rfl ?_
        refine g_ireturn dX10_find_266 rfl ?_
        have ek : ∀ k, k ≠ 5 → wr c2 77 5 v 77 k = c 77 k := fun k hk => by rw [wr_nk hk, e77]
        have er : wr c2 77 5 v q = c q := by rw [wr_other _ _ _ _ _ q77]; exact eq
        refine hPo _ ⟨?_, ML.w rfl rfl, ?_, ?_, ?_⟩
        · exact (e1.tr (g1.bq.mono (by decide))).wr (Or.inl (by decide))
        · intro k k2 k4 k5
          rw [ek k k5]
          exact e3 k k2 k4
        · intro st sp a0 a1 a2
          unfold rbit
          rw [wr_na (by decide)]
          exact g2 st sp a0 a1 a2
        · refine ⟨n, f, by rw [ek 2 (by decide)]; exact q2, q3, by rw [er]; exact q4, ?_, ?_, ?_⟩
          · have eU : U9 (wr c2 77 5 v) = U9 c0 := by
              unfold U9
              rw [ek 9 (by decide), e3 9 (by decide) (by decide)]
            rw [eU, ek 10 (by decide), e3 10 (by decide) (by decide), h10, ek 11 (by decide), e3 11 (by decide) (by decide), h11, ek 7 (by decide), e3 7 (by decide) (by decide), h7, hsc]
            have n1 : ndQ (wr c2 77 5 v) q = ndQ c q := by funext j; unfold ndQ; rw [er]
            have n2 : prQ (wr c2 77 5 v) q = prQ c q := by funext j; unfold prQ; rw [er]
            rw [n1, n2]
            exact e5
          · intro j hj
            rw [ek 8 (by decide), e3 8 (by decide) (by decide), h8, ek 11 (by decide), e3 11 (by decide) (by decide), h11]
            unfold ndQ
            rw [er]
            exact e6 j hj
          · have n2 : prQ (wr c2 77 5 v) q = prQ c q := by funext j; unfold prQ; rw [er]
            have n1 : ndQ (wr c2 77 5 v) q = ndQ c q := by funext j; unfold ndQ; rw [er]
            rw [n1, n2, ek 8 (by decide), e3 8 (by decide) (by decide), h8, ek 11 (by decide), e3 11 (by decide) (by decide), h11, ek 4 (by decide), wr_eq]
            rcases e7 with ⟨a1, a2, a3⟩ | ⟨a1, a2⟩
            · rcases hv with ⟨-, v2⟩ | ⟨v1, -⟩
              · exact Or.inl ⟨a1, a2, a3, v2⟩
              · omega
            · rcases hv with ⟨v1, -⟩ | ⟨-, v2⟩
              · omega
              · exact Or.inr ⟨a1, a2, v2⟩
      refine g_aload_n (q := 239) dX10_find_238 rfl rfl ?_
      refine g_aload_n (q := 240) dX10_find_239 rfl rfl ?_
      refine g_getI (q := 243) (kI := 4) fX10_19 (by first | assumption | exact S.at _ rfl) dX10_find_240 rfl rfl ?_
      rw [e77]
      rcases e7 with ⟨a1, a2, a3⟩ | ⟨a1, a2⟩
      · rw [a3]
        refine g_iconst (q := 244) dX10_find_243 rfl ?_
        refine g_icmp_ne (q := 247) (tg := 251) dX10_find_244 (by decide) rfl (fun c_244 => ?_) (fun c_244 => ?_)
        · refine g_aload_n (q := 252) dX10_find_251 rfl rfl ?_
          refine g_aload_n (q := 253) dX10_find_252 rfl rfl ?_
          refine g_getI (q := 256) (kI := 4) fX10_19 (by first | assumption | exact S.at _ rfl) dX10_find_253 rfl rfl ?_
          rw [e77, a3]
          refine g_callV (q := 259) lX10_77 mX10_lengthTo nX10_lengthTo rfl (c_lengthTo (d + 2) sh c2 S Lc (by rw [e77]; exact q1) sq hN (by rw [e77]; exact q2) q3 (by rw [eq]; exact fun j hj => ⟨(q4 j hj).1, (q4 j hj).2.1⟩) (fun j j0 j1 => by have := (e5.pl j0 j1).1; unfold prQ at *; rw [eq]; exact this) a1) (by first | assumption | exact S.at _ rfl) rfl rfl shLe.rf (rmOk.mk (by omega) (by first | exact shLe.rf | assumption)) (Nat.le_of_ble_eq_true rfl) dX10_find_256 rfl rfl (kI fun r c3 hp => ?_)
          obtain ⟨rfl, rfl⟩ := hp
          have n2 : prQ c3 q = prQ c q := by funext j; unfold prQ; rw [eq]
          rw [n2]
          exact last _ (Or.inl ⟨a1, rfl⟩)
        · exact absurd c_244 (by unfold w32; omega)
      · rw [a2]
        refine g_iconst (q := 244) dX10_find_243 rfl ?_
        refine g_icmp_ne (q := 247) (tg := 251) dX10_find_244 (by decide) rfl (fun c_244 => ?_) (fun c_244 => ?_)
        · exact absurd rfl c_244
        · refine g_iconst (q := 248) dX10_find_247 rfl ?_
          refine g_goto (q := 259) dX10_find_248 (by decide) ?_
          exact last _ (Or.inr ⟨a1, rfl⟩)
    have clean : ∀ (k i : Nat) (c2 : mbCt), i + k = n → eqBut [79] c c2 → (∀ (st : Int) (sp : Nat), 0 ≤ st → st < 700 → sp < 64 → rbit c2 st sp = true → ∃ j, i ≤ j ∧ j < n ∧ ndQ c q j = (st, (sp : Int))) → G (mkK YX10_find (d + 4) sh0 sh Po) 211 [some (.inr (.inr 77)), some (.inl from'), some (.inl tone), some (.inr (.inl use)), none, some (.inl cap), some (.inl w), some (.inl i)] [] sh c2 := by
      intro k
      induction k with
      | zero =>
        intro i c2 hi g1 g2
        have e77 : c2 77 = c 77 := g1 77 (by decide)
        refine g_iload (q := 213) dX10_find_211 rfl rfl ?_
        refine g_aload_n (q := 214) dX10_find_213 rfl rfl ?_
        refine g_getI (q := 217) (kI := 2) fX10_55 (by first | assumption | exact S.at _ rfl) dX10_find_214 rfl rfl ?_
        rw [e77, q2]
        refine g_icmp_ge (q := 220) (tg := 238) dX10_find_217 (by decide) rfl (fun c_217 => ?_) (fun c_217 => ?_)
        · refine out c2 _ g1 ?_
          intro st sp a0 a1 a2
          by_cases h : rbit c2 st sp = true
          · obtain ⟨j, j1, j2, -⟩ := g2 st sp a0 a1 a2 h
            omega
          · simpa using h
        · exact absurd c_217 (by unfold w32; omega)
      | succ k ih =>
        intro i c2 hi g1 g2
        have e77 : c2 77 = c 77 := g1 77 (by decide)
        have eq : c2 q = c q := g1 q (by simp; exact q79)
        have Lc : LK c2 := e2.L.eb g1 rfl
        have s79 : shA sh 79 = some (21, 700) := S.at _ rfl
        have hqi := q4 i (by omega)
        refine g_iload (q := 213) dX10_find_211 rfl rfl ?_
        refine g_aload_n (q := 214) dX10_find_213 rfl rfl ?_
        refine g_getI (q := 217) (kI := 2) fX10_55 (by first | assumption | exact S.at _ rfl) dX10_find_214 rfl rfl ?_
        rw [e77, q2]
        refine g_icmp_ge (q := 220) (tg := 238) dX10_find_217 (by decide) rfl (fun c_217 => ?_) (fun c_217 => ?_)
        · exact absurd c_217 (by unfold w32; omega)
        · refine g_aload_n (q := 221) dX10_find_220 rfl rfl ?_
          refine g_getA (q := 224) (kI := 3) fX10_15 (by first | assumption | exact S.at _ rfl) dX10_find_221 rfl rfl (by first | assumption | exact L.at _ _ rfl | exact LK.at (by assumption) _ _ rfl | ((repeat first | rewrite [wr_na (by decide)] | rewrite [wr_nk (by decide)] | rewrite [wa_na (by decide)]); first | assumption | exact LK.at (by assumption) _ _ rfl) | exact rfl) ?_
          refine g_aload_n (q := 225) dX10_find_224 rfl rfl ?_
          refine g_iload (q := 227) dX10_find_225 rfl rfl ?_
          refine g_callV (q := 230) lX10_66 mX10_stateAt nX10_stateAt rfl (c_stateAt (d + 3) sh c2 S (by rw [e77]; exact q1) sq (by omega) (by omega) (by omega) (by rw [eq]; exact hqi.1) (by rw [eq]; exact hqi.2.1)) (by first | assumption | exact S.at _ rfl) rfl rfl shLe.rf (rmOk.mk (by omega) (by first | exact shLe.rf | assumption)) (Nat.le_of_ble_eq_true rfl) dX10_find_227 rfl rfl (kI fun r c3 hp => ?_)
          obtain ⟨rfl, rfl⟩ := hp
          rw [eq]
          have hs : 0 ≤ qSt (c q i) ∧ qSt (c q i) < 700 := by unfold qSt; omega
          refine g_lconst0 (q := 231) dX10_find_230 rfl ?_
          refine g_lastore (q := 232) (by first | assumption | exact S.at _ rfl) (by omega) (by omega) (by omega) dX10_find_231 rfl ?_
          refine s_iinc_8_7 (q := 235) dX10_find_232 rfl rfl rfl ?_
          refine g_goto (q := 211) dX10_find_235 (by decide) ?_
          refine ih (i + 1) _ (by omega) (g1.wr (by decide)) ?_
          intro st sp a0 a1 a2 hb
          by_cases e : st = qSt (c q i)
          · rw [rbit_0 (by rw [e, wr_eq])] at hb
            cases hb
          · have hb2 : rbit c3 st sp = true := by
              unfold rbit at hb ⊢
              rw [wr_nk e] at hb
              exact hb
            obtain ⟨j, j1, j2, j3⟩ := g2 st sp a0 a1 a2 hb2
            refine ⟨j, ?_, j2, j3⟩
            by_cases e4 : j = i
            · subst e4
              have := congrArg Prod.fst j3
              exact absurd this.symm e
            · omega
    refine g_iconst (q := 209) dX10_find_208 rfl ?_
    refine s_istore_8_7 (q := 211) dX10_find_209 rfl rfl rfl ?_
    exact clean n 0 c (by omega) eqBut.rf (fun st sp a0 a1 a2 hb => by
      obtain ⟨j, j1, j2⟩ := (q5 st sp a0 a1 a2).mp hb
      exact ⟨j, by omega, j1, j2⟩)
  have loop : ∀ (k i n : Nat) (c : mbCt), i + k = N → FI c0 b β mk q N sc (from', 0) ok (goalW β tone w) n i c → G (mkK YX10_find (d + 4) sh0 sh Po) 127 [some (.inr (.inr 77)), some (.inl from'), some (.inl tone), some (.inr (.inl use)), none, some (.inl cap), some (.inl w), some (.inl i)] [] sh c := by
    intro k
    induction k with
    | zero =>
      intro i n c hi ⟨e1, e2, e3, e4, e5, e6, e7, e8, e9⟩
      obtain ⟨q1, q2, q3, q4, q5⟩ := id e5
      refine g_iload (q := 129) dX10_find_127 rfl rfl ?_
      refine g_aload_n (q := 130) dX10_find_129 rfl rfl ?_
      refine g_getA (q := 133) (kI := 1) fX10_11 (by first | assumption | exact S.at _ rfl) dX10_find_130 rfl rfl (by first | assumption | exact L.at _ _ rfl | exact LK.at (by assumption) _ _ rfl | ((repeat first | rewrite [wr_na (by decide)] | rewrite [wr_nk (by decide)] | rewrite [wa_na (by decide)]); first | assumption | exact LK.at (by assumption) _ _ rfl) | exact rfl) ?_
      refine g_alen (q := 134) (by first | assumption | exact S.at _ rfl) (by decide) dX10_find_133 rfl rfl ?_
      refine g_icmp_ge (q := 137) (tg := 208) dX10_find_134 (by decide) rfl (fun c_134 => ?_) (fun c_134 => ?_)
      · have hin : i = n := by omega
        subst hin
        exact fin c i i _ e1 e2 e3 e5 e6 e9 (Or.inr ⟨rfl, e4⟩)
      · exact absurd c_134 (by unfold w32; omega)
    | succ k ih =>
      intro i n c hi ⟨e1, e2, e3, e4, e5, e6, e7, e8, e9⟩
      obtain ⟨q1, q2, q3, q4, q5⟩ := id e5
      have Lc := e2.L
      refine g_iload (q := 129) dX10_find_127 rfl rfl ?_
      refine g_aload_n (q := 130) dX10_find_129 rfl rfl ?_
      refine g_getA (q := 133) (kI := 1) fX10_11 (by first | assumption | exact S.at _ rfl) dX10_find_130 rfl rfl (by first | assumption | exact L.at _ _ rfl | exact LK.at (by assumption) _ _ rfl | ((repeat first | rewrite [wr_na (by decide)] | rewrite [wr_nk (by decide)] | rewrite [wa_na (by decide)]); first | assumption | exact LK.at (by assumption) _ _ rfl) | exact rfl) ?_
      refine g_alen (q := 134) (by first | assumption | exact S.at _ rfl) (by decide) dX10_find_133 rfl rfl ?_
      refine g_icmp_ge (q := 137) (tg := 208) dX10_find_134 (by decide) rfl (fun c_134 => ?_) (fun c_134 => ?_)
      · exact absurd c_134 (by unfold w32; omega)
      · refine g_iload (q := 139) dX10_find_137 rfl rfl ?_
        refine g_aload_n (q := 140) dX10_find_139 rfl rfl ?_
        refine g_getI (q := 143) (kI := 2) fX10_55 (by first | assumption | exact S.at _ rfl) dX10_find_140 rfl rfl ?_
        rw [q2]
        refine g_icmp_ge (q := 146) (tg := 208) dX10_find_143 (by decide) rfl (fun c_143 => ?_) (fun c_143 => ?_)
        · have hin : i = n := by unfold w32 at c_143; omega
          subst hin
          exact fin c i i _ e1 e2 e3 e5 e6 e9 (Or.inr ⟨rfl, e4⟩)
        · have hin : i < n := by unfold w32 at c_143; omega
          have hqi := q4 i hin
          have k8 : c 77 8 = tone := by rw [e3 8 (by decide) (by decide)]; exact h8
          have k10 : c 77 10 = cap := by rw [e3 10 (by decide) (by decide)]; exact h10
          have k11 : c 77 11 = w := by rw [e3 11 (by decide) (by decide)]; exact h11
          have hnd1 : (ndQ c q i).1 = qSt (c q i) := rfl
          have hnd2 : (ndQ c q i).2 = qSp (c q i) := rfl
          have hs : 0 ≤ qSt (c q i) ∧ qSt (c q i) < 700 := by unfold qSt; omega
          have hsp : 0 ≤ qSp (c q i) ∧ qSp (c q i) < 64 := by unfold qSp; omega
          have spr : ∀ c2 : mbCt, MVt c c2 b β mk → ¬ goalW β tone w (ndQ c q i) → G (mkK YX10_find (d + 4) sh0 sh Po) 196 [some (.inr (.inr 77)), some (.inl from'), some (.inl tone), some (.inr (.inl use)), none, some (.inl cap), some (.inl w), some (.inl i)] [] sh c2 := by
            intro c2 ⟨m1, m2⟩ hng
            have e77 : c2 77 = c 77 := m1 77 (by decide)
            have eq : c2 q = c q := m1 q qA
            have e79 : c2 79 = c 79 := m1 79 (by decide)
            have n1 : ndQ c2 q = ndQ c q := by funext j; unfold ndQ; rw [eq]
            have n2 : prQ c2 q = prQ c q := by funext j; unfold prQ; rw [eq]
            have eU : U9 c2 = U9 c0 := by unfold U9; rw [e77, e3 9 (by decide) (by decide)]
            refine g_aload_n (q := 197) dX10_find_196 rfl rfl ?_
            refine g_iload (q := 199) dX10_find_197 rfl rfl ?_
            refine g_callV (q := 202) lX10_73 mX10_spread nX10_spread rfl (c_spread d sh c2 S m2 hqn sq hN (e5.mv e77 eq e79) hin (cap := cap) (w := w) (by rw [e77]; exact k10) hc0 hc1 (by rw [e77]; exact k11) hw0 hw1 (U := U9 c0) (by rw [← eU]; rfl) (s0 := (from', 0)) (by rw [hsc, n1, n2]; exact e6) (ok := ok) (by rw [n1]; exact e7) (by rw [hsc]; exact hst) hcp) (by first | assumption | exact S.at _ rfl) rfl rfl shLe.rf (rmOk.mk (by omega) (by first | exact shLe.rf | assumption)) (Nat.le_of_ble_eq_true rfl) dX10_find_199 rfl rfl (kN fun c3 hp => ?_)
            obtain ⟨n3, p1, p2, p3, p4, p5, p6, p7, p8⟩ := hp
            refine s_iinc_8_7 (q := 205) dX10_find_202 rfl rfl rfl ?_
            refine g_goto (q := 127) dX10_find_205 (by decide) ?_
            have hnn : ∀ j, j ≤ i → ndQ c3 q j = ndQ c q j := fun j hj => by rw [(nd_cong (p8 j hj)).1, n1]
            refine ih (i + 1) n3 c3 (by omega) ⟨e1.tr ((m1.bq.mono (by decide)).tr p1), p2, fun k k2 k4 => by rw [p3 k k2, e77]; exact e3 k k2 k4, by rw [p3 4 (by decide), e77]; exact e4, p4, ?_, p6, by omega, ?_⟩
            · rw [hsc] at p5
              rw [← (nd_cong (p8 i (Nat.le_refl _))).1] at p5
              exact p5.next
            · intro j hj
              rw [hnn j (by omega)]
              by_cases e : j = i
              · subst e
                exact hng
              · exact e9 j (by omega)
          refine g_aload_n (q := 147) dX10_find_146 rfl rfl ?_
          refine g_getI (q := 150) (kI := 4) fX10_19 (by first | assumption | exact S.at _ rfl) dX10_find_147 rfl rfl ?_
          rw [e4]
          refine g_iconst (q := 151) dX10_find_150 rfl ?_
          refine g_icmp_ne (q := 154) (tg := 208) dX10_find_151 (by decide) rfl (fun c_151 => ?_) (fun c_151 => ?_)
          · exact absurd rfl c_151
          · refine g_aload_n (q := 155) dX10_find_154 rfl rfl ?_
            refine g_iload (q := 157) dX10_find_155 rfl rfl ?_
            refine g_callV (q := 160) lX10_62 mX10_spokenAt nX10_spokenAt rfl (c_spokenAt (d + 3) sh c S q1 sq (by omega) (by omega) (by omega) hqi.1 hqi.2.1) (by first | assumption | exact S.at _ rfl) rfl rfl shLe.rf (rmOk.mk (by omega) (by first | exact shLe.rf | assumption)) (Nat.le_of_ble_eq_true rfl) dX10_find_157 rfl rfl (kI fun r c2 hp => ?_)
            obtain ⟨rfl, rfl⟩ := hp
            refine g_aload_n (q := 161) dX10_find_160 rfl rfl ?_
            refine g_getI (q := 164) (kI := 11) fX10_49 (by first | assumption | exact S.at _ rfl) dX10_find_161 rfl rfl ?_
            rw [k11]
            refine g_icmp_ne (q := 167) (tg := 196) dX10_find_164 (by decide) rfl (fun c_164 => ?_) (fun c_164 => ?_)
            · refine spr c2 e2.rf ?_
              intro hg
              have h3 : qSp (c2 q i) = w := hg.1
              exact c_164 (by rw [h3])
            · have hsw : qSp (c2 q i) = w := by unfold w32 at c_164; omega
              refine g_aload_n (q := 168) dX10_find_167 rfl rfl ?_
              refine g_getO (q := 171) (kI := 0) fX10_29 (by first | assumption | exact S.at _ rfl) dX10_find_168 rfl rfl (by first | assumption | exact L.at _ _ rfl | exact LK.at (by assumption) _ _ rfl | ((repeat first | rewrite [wr_na (by decide)] | rewrite [wr_nk (by decide)] | rewrite [wa_na (by decide)]); first | assumption | exact LK.at (by assumption) _ _ rfl) | exact rfl) ?_
              refine g_aload_n (q := 172) dX10_find_171 rfl rfl ?_
              refine g_iload (q := 174) dX10_find_172 rfl rfl ?_
              refine g_callV (q := 177) lX10_66 mX10_stateAt nX10_stateAt rfl (c_stateAt (d + 3) sh c2 S q1 sq (by omega) (by omega) (by omega) hqi.1 hqi.2.1) (by first | assumption | exact S.at _ rfl) rfl rfl shLe.rf (rmOk.mk (by omega) (by first | exact shLe.rf | assumption)) (Nat.le_of_ble_eq_true rfl) dX10_find_174 rfl rfl (kI fun r c3 hp => ?_)
              obtain ⟨rfl, rfl⟩ := hp
              refine g_aload_n (q := 178) dX10_find_177 rfl rfl ?_
              refine g_getI (q := 181) (kI := 8) fX10_39 (by first | assumption | exact S.at _ rfl) dX10_find_178 rfl rfl ?_
              rw [k8]
              refine g_callV (q := 184) lX10_69 mX4_isEnd nX4_isEnd rfl (m_isEnd d sh c3 S e2 hs.1 hs.2 t0 t1) (by first | assumption | exact S.at _ rfl) rfl rfl shLe.rf (rmOk.mk (by omega) (by first | exact shLe.rf | assumption)) (Nat.le_of_ble_eq_true rfl) dX10_find_181 rfl rfl (kI fun r c4 hp => ?_)
              obtain ⟨rfl, m1, m2⟩ := hp
              refine g_if_eq (q := 187) (tg := 196) dX10_find_184 (by decide) rfl (fun c_184 => ?_) (fun c_184 => ?_)
              · refine spr c4 ⟨m1, m2⟩ ?_
                intro hg
                have h3 : enB β (qSt (c3 q i)) tone = true := hg.2
                rw [← b01_t h3] at c_184
                exact absurd c_184 (by decide)
              · have hg : enB β (qSt (c3 q i)) tone = true := by
                  by_cases h : enB β (qSt (c3 q i)) tone = true
                  · exact h
                  · rw [← b01_f h] at c_184
                    exact absurd rfl c_184
                have e77 : c4 77 = c3 77 := m1 77 (by decide)
                have eq : c4 q = c3 q := m1 q qA
                have e79 : c4 79 = c3 79 := m1 79 (by decide)
                have n1 : ndQ (wr c4 77 4 i) q = ndQ c3 q := by funext j; unfold ndQ; rw [wr_na q77, eq]
                have n2 : prQ (wr c4 77 4 i) q = prQ c3 q := by funext j; unfold prQ; rw [wr_na q77, eq]
                have f4 : wr c4 77 4 i 77 4 = i := wr_eq
                have ex : ∀ o7, G (mkK YX10_find (d + 4) sh0 sh Po) 208 [some (.inr (.inr 77)), some (.inl from'), some (.inl tone), some (.inr (.inl use)), none, some (.inl cap), some (.inl w), o7] [] sh (wr c4 77 4 i) := by
                  intro o7
                  refine fin (wr c4 77 4 i) n i o7 ((e1.tr (m1.bq.mono (by decide))).wr (Or.inl (by decide))) (m2.w rfl rfl) (fun k k2 k4 => by rw [wr_nk k4, e77]; exact e3 k k2 k4) ?_ (by rw [n1, n2]; exact e6) (by rw [n1]; exact e9) (Or.inl ⟨hin, by rw [n1]; exact ⟨hsw, hg⟩, f4⟩)
                  refine ⟨by rw [wr_nk (by decide), e77]; exact q1, by rw [wr_nk (by decide), e77]; exact q2, q3, ?_, ?_⟩
                  · intro j hj
                    rw [wr_na q77, eq]
                    exact q4 j hj
                  · intro st sp a0 a1 a2
                    rw [n1]
                    unfold rbit
                    rw [wr_na (by decide), e79]
                    exact q5 st sp a0 a1 a2
                have q1' : wr c4 77 4 i 77 1 = q := by rw [wr_nk (by decide), e77]; exact q1
                refine g_aload_n (q := 188) dX10_find_187 rfl rfl ?_
                refine g_iload (q := 190) dX10_find_188 rfl rfl ?_
                refine g_putI (q := 193) (kI := 4) fX10_19 (by first | assumption | exact S.at _ rfl) dX10_find_190 rfl rfl ?_
                refine g_goto (q := 202) dX10_find_193 (by decide) ?_
                refine s_iinc_8_7 (q := 205) dX10_find_202 rfl rfl rfl ?_
                refine g_goto (q := 127) dX10_find_205 (by decide) ?_
                refine g_iload (q := 129) dX10_find_127 rfl rfl ?_
                refine g_aload_n (q := 130) dX10_find_129 rfl rfl ?_
                refine g_getA (q := 133) (kI := 1) fX10_11 (by first | assumption | exact S.at _ rfl) dX10_find_130 rfl rfl (by first | assumption | exact L.at _ _ rfl | exact LK.at (by assumption) _ _ rfl | ((repeat first | rewrite [wr_na (by decide)] | rewrite [wr_nk (by decide)] | rewrite [wa_na (by decide)]); first | assumption | exact LK.at (by assumption) _ _ rfl) | exact rfl) ?_
                refine g_alen (q := 134) (by first | assumption | exact S.at _ rfl) (by decide) dX10_find_133 rfl rfl ?_
                refine g_icmp_ge (q := 137) (tg := 208) dX10_find_134 (by decide) rfl (fun c_134 => ?_) (fun c_134 => ?_)
                · exact ex _
                · refine g_iload (q := 139) dX10_find_137 rfl rfl ?_
                  refine g_aload_n (q := 140) dX10_find_139 rfl rfl ?_
                  refine g_getI (q := 143) (kI := 2) fX10_55 (by first | assumption | exact S.at _ rfl) dX10_find_140 rfl rfl ?_
                  refine g_icmp_ge (q := 146) (tg := 208) dX10_find_143 (by decide) rfl (fun c_143 => ?_) (fun c_143 => ?_)
                  · exact ex _
                  · refine g_aload_n (q := 147) dX10_find_146 rfl rfl ?_
                    refine g_getI (q := 150) (kI := 4) fX10_19 (by first | assumption | exact S.at _ rfl) dX10_find_147 rfl rfl ?_
                    rw [f4]
                    refine g_iconst (q := 151) dX10_find_150 rfl ?_
                    refine g_icmp_ne (q := 154) (tg := 208) dX10_find_151 (by decide) rfl (fun c_151 => ?_) (fun c_151 => ?_)
                    · exact ex _
                    · exact absurd c_151 (by unfold w32; omega)
  have M2 : MV (wr (wr c0 77 2 0) 77 4 (-1)) b β mk := (M.w (k := 2) (v := 0) rfl rfl).w (k := 4) (v := -1) rfl rfl
  have L2 := M2.L
  generalize hc2 : wr (wr c0 77 2 0) 77 4 (-1) = c2 at M2 L2
  have k2 : ∀ k, k ≠ 2 → k ≠ 4 → c2 77 k = c0 77 k := fun k a b' => by rw [← hc2, wr_nk b', wr_nk a]
  have hQ : QI c2 q N 0 := by
    refine ⟨by rw [k2 1 (by decide) (by decide)]; exact h1, by rw [← hc2, wr_nk (by decide), wr_eq]; rfl, by omega, fun j hj => by omega, ?_⟩
    intro st sp a0 a1 a2
    have : rbit c2 st sp = false := by
      have := hr st sp a0 a1 a2
      unfold rbit at this ⊢
      rw [← hc2, wr_na (by decide), wr_na (by decide)]
      exact this
    rw [this]
    constructor
    · intro h
      cases h
    · rintro ⟨j, j1, -⟩
      omega
  refine g_aload_n (q := 105) dX10_find_104 rfl rfl ?_
  refine g_iconst (q := 106) dX10_find_105 rfl ?_
  refine g_putI (q := 109) (kI := 2) fX10_55 (by first | assumption | exact S.at _ rfl) dX10_find_106 rfl rfl ?_
  refine g_aload_n (q := 110) dX10_find_109 rfl rfl ?_
  refine g_iconst (q := 111) dX10_find_110 rfl ?_
  refine g_putI (q := 114) (kI := 4) fX10_19 (by first | assumption | exact S.at _ rfl) dX10_find_111 rfl rfl ?_
  refine g_aload_n (q := 115) dX10_find_114 rfl rfl ?_
  refine g_aload_n (q := 116) dX10_find_115 rfl rfl ?_
  rw [hc2]
  refine g_getI (q := 119) (kI := 7) fX10_36 (by first | assumption | exact S.at _ rfl) dX10_find_116 rfl rfl ?_
  rw [k2 7 (by decide) (by decide), h7]
  refine g_iconst (q := 120) dX10_find_119 rfl ?_
  refine g_iconst (q := 121) dX10_find_120 rfl ?_
  refine g_callV (q := 124) lX10_58 mX10_reach nX10_reach rfl (c_reach (d + 2) sh c2 S L2 hqn sq hN hQ f0 f1 (sp := 0) (fr := 0) (by omega) (by omega) (by rw [k2 10 (by decide) (by decide), h10]; exact hc0) (by rw [k2 10 (by decide) (by decide), h10]; exact hc1)) (by first | assumption | exact S.at _ rfl) rfl rfl shLe.rf (rmOk.mk (by omega) (by first | exact shLe.rf | assumption)) (Nat.le_of_ble_eq_true rfl) dX10_find_121 rfl rfl (kN fun c3 hp => ?_)
  obtain ⟨r1, r2, r3⟩ := hp
  have M3 : MV c3 b β mk := M2.q hqn r1 (lk77 L2 r2)
  rcases r3 with ⟨-, -, hQ3, -, hnd, hpr⟩ | ⟨hno, -⟩
  · refine g_iconst (q := 125) dX10_find_124 rfl ?_
    refine s_istore_8_7 (q := 127) dX10_find_125 rfl rfl rfl ?_
    refine loop N 0 1 c3 (by omega) ⟨?_, M3, fun k k2' k4 => by rw [r2 k k2']; exact k2 k k2' k4, by rw [r2 4 (by decide), ← hc2, wr_eq], hQ3, BF.one hnd, ?_, by omega, fun j hj => by omega⟩
    · refine eqBq.tr ?_ (r1.mono (by decide))
      rw [← hc2]
      exact (eqBq.rf.wr (Or.inl (by decide))).wr (Or.inl (by decide))
    · intro j hj
      have : j = 0 := by omega
      subst this
      rw [hnd]
      exact hok0
  · rw [k2 10 (by decide) (by decide), h10] at hno
    rcases hno with h | ⟨j, h, -⟩ | h
    · rw [hcool] at h
      cases h
    · omega
    · omega
end
