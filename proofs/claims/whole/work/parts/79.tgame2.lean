/-! the game of the reference, played -/
section
variable (d : Nat) (sh : mbSh) (ct : mbCt) {β : Bk} {mk : Int → Int} {st : Int}
/-- at the head of a round -/
def GmI (c : mbCt) (β : Bk) (mk : Int → Int) (tone : Int) (lv : Nat) : Prop := (∀ f x, 0 ≤ x → x < 700 → exS (c (rG f) x) (fun m => gP β mk tone f m x) lv) ∧ ∀ i : Nat, 1 ≤ i → i ≤ lv → ∃ (f : Bool) (x : Int), (0 ≤ x ∧ x < 700) ∧ c (rG f) x = i
theorem GmI.lt {c : mbCt} {tone : Int} {lv : Nat} (h : GmI c β mk tone lv) : lv ≤ 1400 := by
  have hx : ∀ i : Nat, ∃ p : Bool × Int, i < lv → ((0 ≤ p.2 ∧ p.2 < 700) ∧ c (rG p.1) p.2 = ((i + 1 : Nat) : Int)) := by
    intro i
    by_cases hi : i < lv
    · obtain ⟨f, x, h1, h2⟩ := h.2 (i + 1) (by omega) (by omega)
      exact ⟨(f, x), fun _ => ⟨h1, h2⟩⟩
    · exact ⟨(true, 0), fun z => absurd z hi⟩
  obtain ⟨g, hg⟩ := Classical.axiomOfChoice hx
  refine pig 1400 lv (fun i => (g i).2.toNat + if (g i).1 = true then 0 else 700) ?_ ?_
  · intro j hj
    have := (hg j hj).1
    show (g j).2.toNat + (if (g j).1 = true then 0 else 700) < 1400
    split <;> omega
  · intro j k hj hk he
    have he' : (g j).2.toNat + (if (g j).1 = true then 0 else 700) = (g k).2.toNat + (if (g k).1 = true then 0 else 700) := he
    obtain ⟨a1, a2⟩ := hg j hj
    obtain ⟨b1, b2⟩ := hg k hk
    have e2 : (g j).2 = (g k).2 := by
      split at he' <;> split at he' <;> omega
    have e1 : (g j).1 = (g k).1 := by
      cases hj1 : (g j).1 <;> cases hk1 : (g k).1 <;> simp [hj1, hk1] at he' ⊢ <;> omega
    rw [e1, e2, b2] at a2
    omega
theorem GmI.rg {c : mbCt} {tone : Int} {lv : Nat} (h : GmI c β mk tone lv) (f : Bool) : ∀ y, 0 ≤ y → y < 700 → 0 ≤ c (rG f) y ∧ c (rG f) y ≤ 268435456 := by
  intro y a b
  have := h.lt
  rcases h.1 f y a b with ⟨g, -⟩ | ⟨i, g1, g2, -⟩ <;> omega
theorem gP_stop {tone : Int} {lv : Nat} (h : ∀ f x, 0 ≤ x → x < 700 → gP β mk tone f (lv + 1) x → gP β mk tone f lv x) : ∀ m f x, 0 ≤ x → x < 700 → gP β mk tone f m x → gP β mk tone f lv x := by
  intro m
  induction m with
  | zero =>
    intro f x _ _ hg
    exact gW_le (Nat.zero_le _) hg
  | succ m ih =>
    intro f x x0 x1 hg
    apply h f x x0 x1
    cases f
    · rcases hg with hg | ⟨h1, h2⟩
      · exact Or.inl hg
      · exact Or.inr ⟨h1, fun y hy => ih true y (scG_in hy).1 (scG_in hy).2 (h2 y hy)⟩
    · rcases hg with hg | ⟨y, hy, h2⟩
      · exact Or.inl hg
      · exact Or.inr ⟨y, hy, ih false y (scG_in hy).1 (scG_in hy).2 h2⟩
/-- for good -/
def GmF (c : mbCt) (β : Bk) (mk : Int → Int) (tone : Int) : Prop := ∀ f x, 0 ≤ x → x < 700 → (c (rG f) x = 268435456 ∧ ∀ m, ¬ gP β mk tone f m x) ∨ ∃ i : Nat, i ≤ 1400 ∧ c (rG f) x = i ∧ gP β mk tone f i x ∧ ∀ m, m < i → ¬ gP β mk tone f m x
/-- within how few minutes it is forced -/
def fcS (β : Bk) (mk : Int → Int) (tone st r : Int) : Prop := (r = -1 ∧ ∀ m, ¬ gP β mk tone true m st) ∨ ∃ i : Nat, r = i ∧ gP β mk tone true i st ∧ ∀ m, m < i → ¬ gP β mk tone true m st
theorem fcS.uni {tone r r2 : Int} (h : fcS β mk tone st r) (h2 : fcS β mk tone st r2) : r = r2 := by
  rcases h with ⟨a, b⟩ | ⟨i, a, b, c⟩ <;> rcases h2 with ⟨a2, b2⟩ | ⟨j, a2, b2, c2⟩
  · omega
  · exact absurd b2 (b j)
  · exact absurd b (b2 i)
  · rcases Nat.lt_trichotomy i j with h | h | h
    · exact absurd b (c2 i h)
    · omega
    · exact absurd b2 (c j h)
set_option maxRecDepth 4000 in
theorem tw_laysGame {tone : Int} (S : SH sh) (M : MD ct β mk st) (t0 : -1 ≤ tone) (t1 : tone ≤ 10) : Mt YX12_laysGame (d + 6) [.inr (.inr 92), .inl tone] sh sh ct (pI fun r c => (fcS β mk tone st r ∧ r ≤ 1400) ∧ GmF c β mk tone ∧ LD c β mk (-1) (-1) 9 ∧ eqBut [97, 98, 100, 103, 107, 108, 109, 110] ct c) := by
  have hB := M.B
  have hrg := M.rg
  have s107 : shA sh 107 = some (20, 700) := S.at _ rfl
  have s108 : shA sh 108 = some (20, 700) := S.at _ rfl
  have s109 : shA sh 109 = some (20, 700) := S.at _ rfl
  have s110 : shA sh 110 = some (20, 700) := S.at _ rfl
  generalize hP : (pI fun r c => (fcS β mk tone st r ∧ r ≤ 1400) ∧ GmF c β mk tone ∧ LD c β mk (-1) (-1) 9 ∧ eqBut [97, 98, 100, 103, 107, 108, 109, 110] ct c) = Po
  refine Mt.of rfl (Nat.le_of_ble_eq_true rfl) ?_
  show G _ 0 [some (.inr (.inr 92)), some (.inl tone), none, none] [] sh ct
  refine g_aload_n (q := 1) dX12_laysGame_0 rfl rfl ?_
  refine g_callV (q := 4) lX12_351 mX12_laysPlain nX12_laysPlain rfl (tw_laysPlain d sh _ S M) (by first | assumption | exact S.at _ rfl) rfl rfl shLe.rf (rmOk.mk (by omega) (by first | exact shLe.rf | assumption)) (Nat.le_of_ble_eq_true rfl) dX12_laysGame_1 rfl rfl (kN fun c1 hp => ?_)
  obtain ⟨D, e1⟩ := hp
  have L1 : LK c1 := M.L.eb e1 rfl
  have M1 : MD c1 β mk st := M.eq L1 (e1 93 (by decide))
  -- the end
  have last : ∀ c : mbCt, ∀ o3, eqBut [107, 108, 109, 110] c1 c → GmF c β mk tone → G (mkK YX12_laysGame (d + 6) sh sh Po) 214 [some (.inr (.inr 92)), some (.inl tone), some (.inl 0), o3] [] sh c := by
    intro c o3 e F
    have L2 : LK c := L1.eb e rfl
    have M2 : MD c β mk st := M1.eq L2 (e 93 (by decide))
    have fin : GmF c β mk tone ∧ LD c β mk (-1) (-1) 9 ∧ eqBut [97, 98, 100, 103, 107, 108, 109, 110] ct c := ⟨F, D.eq (e 100 (by decide)) (e 103 (by decide)), (e1.mono (by decide)).tr (e.mono (by decide))⟩
    have hF := F true st hrg.1 hrg.2
    refine g_aload_n (q := 215) dX12_laysGame_214 rfl rfl ?_
    refine g_getA (q := 218) (kI := 28) fX12_63 (by first | assumption | exact S.at _ rfl) dX12_laysGame_215 rfl rfl (by first | assumption | exact L.at _ _ rfl | exact LK.at (by assumption) _ _ rfl | ((repeat first | rewrite [wr_na (by decide)] | rewrite [wr_nk (by decide)] | rewrite [wa_na (by decide)]); first | assumption | exact LK.at (by assumption) _ _ rfl) | exact rfl) ?_
    refine g_aload_n (q := 219) dX12_laysGame_218 rfl rfl ?_
    refine g_callV (q := 222) lX12_251 mX12_standNow nX12_standNow rfl (tw_standNow (d + 5) sh _ M2 S) (by first | assumption | exact S.at _ rfl) rfl rfl shLe.rf (rmOk.mk (by omega) (by first | exact shLe.rf | assumption)) (Nat.le_of_ble_eq_true rfl) dX12_laysGame_219 rfl rfl (kI fun r_ c_ hp => ?_)
    obtain ⟨hr, hq⟩ := hp
    replace hr := hr.symm
    replace hq := hq.symm
    subst hr hq
    refine g_iaload (q := 223) (by first | assumption | exact S.at _ rfl) (by omega) (by omega) (by omega) dX12_laysGame_222 rfl ?_
    refine s_istore_n_4_3 (q := 224) dX12_laysGame_223 rfl rfl rfl ?_
    refine g_iload_n (q := 225) dX12_laysGame_224 rfl rfl ?_
    refine g_ldcw (q := 228) dX12_laysGame_225 kX12_334 rfl ?_
    refine g_icmp_lt (q := 231) (tg := 235) dX12_laysGame_228 (by decide) rfl (fun c_228 => ?_) (fun c_228 => ?_)
    · refine g_iload_n (q := 236) dX12_laysGame_235 rfl rfl ?_
      refine g_ireturn dX12_laysGame_236 rfl ?_
      rw [← hP]
      rcases hF with ⟨a, b⟩ | ⟨i, a, b, g, h⟩
      · have a' : c 107 st = 268435456 := a
        rw [a'] at c_228
        exact absurd c_228 (by decide)
      · have b' : c 107 st = i := b
        exact ⟨_, rfl, ⟨Or.inr ⟨i, b', g, h⟩, by omega⟩, fin⟩
    · refine g_iconst (q := 232) dX12_laysGame_231 rfl ?_
      refine g_goto (q := 236) dX12_laysGame_232 (by decide) ?_
      refine g_ireturn dX12_laysGame_236 rfl ?_
      rw [← hP]
      rcases hF with ⟨a, b⟩ | ⟨i, a, b, g, h⟩
      · exact ⟨_, rfl, ⟨Or.inl ⟨rfl, b⟩, by decide⟩, fin⟩
      · have b' : c 107 st = i := b
        rw [b'] at c_228
        exact absurd c_228 (by unfold w32; omega)
  have rounds : ∀ (k : Nat) (lv : Nat) (c : mbCt) (o3 : Option gV), lv + k = 1401 → eqBut [107, 108, 109, 110] c1 c → GmI c β mk tone lv → G (mkK YX12_laysGame (d + 6) sh sh Po) 55 [some (.inr (.inr 92)), some (.inl tone), some (.inl 1), o3] [] sh c := by
    intro k
    induction k with
    | zero =>
      intro lv c o3 hk e I
      have := I.lt
      omega
    | succ k ih =>
      intro lv c o3 hk e I
      have hlt := I.lt
      have r1 := I.rg true
      have r2 := I.rg false
      have I1 : ∀ x, 0 ≤ x → x < 700 → exS (c 107 x) (fun m => gP β mk tone true m x) lv := I.1 true
      have I2 : ∀ x, 0 ≤ x → x < 700 → exS (c 108 x) (fun m => gP β mk tone false m x) lv := I.1 false
      have r1' : ∀ y, 0 ≤ y → y < 700 → 0 ≤ c 107 y ∧ c 107 y ≤ 268435456 := r1
      have r2' : ∀ y, 0 ≤ y → y < 700 → 0 ≤ c 108 y ∧ c 108 y ≤ 268435456 := r2
      -- behind the first sweep
      have second : ∀ (c2 : mbCt) (o3 : Option gV), eqBut [109, 110] c c2 → (∀ x, 0 ≤ x → x < 700 → exS (c2 109 x) (fun m => gP β mk tone true m x) (lv + 1) ∧ exS (c2 110 x) (fun m => gP β mk tone false m x) (lv + 1)) → G (mkK YX12_laysGame (d + 6) sh sh Po) 134 [some (.inr (.inr 92)), some (.inl tone), some (.inl 0), o3] [] sh c2 := by
        intro c2 o3 e2 hx
        have q1 : c2 107 = c 107 := e2 107 (by decide)
        have q2 : c2 108 = c 108 := e2 108 (by decide)
        have hst1 : ∀ x, 0 ≤ x → x < 700 → c2 109 x = c 107 x ∨ (c 107 x = 268435456 ∧ c2 109 x = ((lv + 1 : Nat) : Int)) := fun x a b => exS_step (by omega) (I1 x a b) (hx x a b).1
        have hst2 : ∀ x, 0 ≤ x → x < 700 → c2 110 x = c 108 x ∨ (c 108 x = 268435456 ∧ c2 110 x = ((lv + 1 : Nat) : Int)) := fun x a b => exS_step (by omega) (I2 x a b) (hx x a b).2
        refine g_iconst (q := 135) dX12_laysGame_134 rfl ?_
        refine s_istore_n_4_3 (q := 136) dX12_laysGame_135 rfl rfl rfl ?_
        refine g_forA (α := Int) (fun j more => [some (.inr (.inr 92)), some (.inl tone), some (.inl more), some (.inl j)]) (fun j more c3 => 0 ≤ j ∧ eqBut [107, 108] c2 c3 ∧ (∀ y, 0 ≤ y → y < j → c3 107 y = c2 109 y ∧ c3 108 y = c2 110 y) ∧ (∀ y, j ≤ y → c3 107 y = c 107 y ∧ c3 108 y = c 108 y) ∧ ((more = 0 ∧ ∀ y, 0 ≤ y → y < j → c2 109 y = c 107 y ∧ c2 110 y = c 108 y) ∨ (more = 1 ∧ ∃ y, 0 ≤ y ∧ y < j ∧ (c2 109 y = ((lv + 1 : Nat) : Int) ∨ c2 110 y = ((lv + 1 : Nat) : Int))))) 700 ?_ ?_ (i := 0) (a := 0) (by omega) ⟨by omega, eqBut.rf, fun y _ _ => by omega, fun y _ => by rw [q1, q2]; exact ⟨rfl, rfl⟩, Or.inl ⟨rfl, fun y _ _ => by omega⟩⟩ (by simp [lsSub])
        · rintro j more c3 hj ⟨j0, e3, i1, i2, i3⟩ kk
          have L3 : LK c3 := ((L1.eb e rfl).eb e2 rfl).eb e3 rfl
          have v1 := (i2 j (Int.le_refl _)).1
          have v2 := (i2 j (Int.le_refl _)).2
          have v3 : c3 109 j = c2 109 j := by rw [e3 109 (by decide)]
          have v4 : c3 110 j = c2 110 j := by rw [e3 110 (by decide)]
          have h1 := hst1 j j0 hj
          have h2 := hst2 j j0 hj
          have g1 := r1' j j0 hj
          have g2 := r2' j j0 hj
          have mm : more = 0 ∨ more = 1 := by rcases i3 with h | h; exact Or.inl h.1; exact Or.inr h.1
          have nxt : ∀ v, ((v = 0 ∧ c2 109 j = c 107 j ∧ c2 110 j = c 108 j) ∨ (v = 1 ∧ (c2 109 j = ((lv + 1 : Nat) : Int) ∨ c2 110 j = ((lv + 1 : Nat) : Int)))) → G (mkK YX12_laysGame (d + 6) sh sh Po) 179 [some (.inr (.inr 92)), some (.inl tone), some (.inl more), some (.inl j)] [.inl v, .inl more] sh c3 := by
            intro v hv
            have hv01 : v = 0 ∨ v = 1 := by rcases hv with h | h; exact Or.inl h.1; exact Or.inr h.1
            have hor := or01 mm hv01
            have L4 : ∀ z, LK (wr c3 107 j z) := fun z => L3.wr (lkF_none rfl j)
            have v5 : ∀ z, wr c3 107 j z 110 j = c2 110 j := fun z => by rw [wr_na (by decide), v4]
            refine g_ior (q := 180) dX12_laysGame_179 rfl ?_
            refine s_istore_n_4_2 (q := 181) dX12_laysGame_180 rfl rfl rfl ?_
            refine g_aload_n (q := 182) dX12_laysGame_181 rfl rfl ?_
            refine g_getA (q := 185) (kI := 28) fX12_63 (by first | assumption | exact S.at _ rfl) dX12_laysGame_182 rfl rfl (by first | assumption | exact L.at _ _ rfl | exact LK.at (by assumption) _ _ rfl | ((repeat first | rewrite [wr_na (by decide)] | rewrite [wr_nk (by decide)] | rewrite [wa_na (by decide)]); first | assumption | exact LK.at (by assumption) _ _ rfl) | exact rfl) ?_
            refine g_iload_n (q := 186) dX12_laysGame_185 rfl rfl ?_
            refine g_aload_n (q := 187) dX12_laysGame_186 rfl rfl ?_
            refine g_getA (q := 190) (kI := 30) fX12_69 (by first | assumption | exact S.at _ rfl) dX12_laysGame_187 rfl rfl (by first | assumption | exact L.at _ _ rfl | exact LK.at (by assumption) _ _ rfl | ((repeat first | rewrite [wr_na (by decide)] | rewrite [wr_nk (by decide)] | rewrite [wa_na (by decide)]); first | assumption | exact LK.at (by assumption) _ _ rfl) | exact rfl) ?_
            refine g_iload_n (q := 191) dX12_laysGame_190 rfl rfl ?_
            refine g_iaload (q := 192) (by first | assumption | exact S.at _ rfl) (by omega) (by omega) (by omega) dX12_laysGame_191 rfl ?_
            refine g_iastore (q := 193) (by first | assumption | exact S.at _ rfl) (by omega) (by omega) (by omega) dX12_laysGame_192 rfl ?_
            refine g_aload_n (q := 194) dX12_laysGame_193 rfl rfl ?_
            refine g_getA (q := 197) (kI := 29) fX12_66 (by first | assumption | exact S.at _ rfl) dX12_laysGame_194 rfl rfl (by first | assumption | exact L.at _ _ rfl | exact LK.at (by assumption) _ _ rfl | ((repeat first | rewrite [wr_na (by decide)] | rewrite [wr_nk (by decide)] | rewrite [wa_na (by decide)]); first | assumption | exact LK.at (by assumption) _ _ rfl) | exact rfl) ?_
            refine g_iload_n (q := 198) dX12_laysGame_197 rfl rfl ?_
            refine g_aload_n (q := 199) dX12_laysGame_198 rfl rfl ?_
            refine g_getA (q := 202) (kI := 31) fX12_72 (by first | assumption | exact S.at _ rfl) dX12_laysGame_199 rfl rfl (by first | assumption | exact L.at _ _ rfl | exact LK.at (by assumption) _ _ rfl | ((repeat first | rewrite [wr_na (by decide)] | rewrite [wr_nk (by decide)] | rewrite [wa_na (by decide)]); first | assumption | exact LK.at (by assumption) _ _ rfl) | exact rfl) ?_
            refine g_iload_n (q := 203) dX12_laysGame_202 rfl rfl ?_
            refine g_iaload (q := 204) (by first | assumption | exact S.at _ rfl) (by omega) (by omega) (by omega) dX12_laysGame_203 rfl ?_
            refine g_iastore (q := 205) (by first | assumption | exact S.at _ rfl) (by omega) (by omega) (by omega) dX12_laysGame_204 rfl ?_
            refine s_iinc_4_3 (q := 208) dX12_laysGame_205 rfl rfl rfl ?_
            refine g_goto (q := 136) dX12_laysGame_208 (by decide) ?_
            rw [hor, v3, v5]
            refine kk (if more = 1 ∨ v = 1 then 1 else 0) _ _ (by simp [lsSub]) ⟨by omega, (e3.wr (by decide)).wr (by decide), fun y a b => ?_, fun y a => ?_, ?_⟩
            · by_cases hy : y = j
              · subst hy
                exact ⟨by rw [wr_na (by decide), wr_eq], by rw [wr_eq]⟩
              · rw [wr_na (by decide), wr_nk hy, wr_nk hy, wr_na (by decide)]
                exact i1 y a (by omega)
            · rw [wr_na (by decide), wr_nk (by omega), wr_nk (by omega), wr_na (by decide)]
              exact i2 y (by omega)
            · rcases hv with ⟨rfl, w1, w2⟩ | ⟨rfl, w1⟩
              · rcases i3 with ⟨rfl, a⟩ | ⟨rfl, y, y0, y1, a⟩
                · refine Or.inl ⟨by decide, fun y a0 a1 => ?_⟩
                  by_cases hy : y = j
                  · subst hy
                    exact ⟨w1, w2⟩
                  · exact a y a0 (by omega)
                · exact Or.inr ⟨by decide, y, y0, by omega, a⟩
              · exact Or.inr ⟨by rw [if_pos (Or.inr rfl)], j, j0, by omega, w1⟩
          refine g_iload_n (q := 137) dX12_laysGame_136 rfl rfl ?_
          refine g_sipush (q := 140) dX12_laysGame_137 (by decide +kernel) rfl ?_
          refine g_icmp_ge (q := 143) (tg := 211) dX12_laysGame_140 (by decide) rfl (fun c_140 => ?_) (fun c_140 => ?_)
          · exact absurd c_140 (by unfold w32; omega)
          · refine g_iload_n (q := 144) dX12_laysGame_143 rfl rfl ?_
            refine g_aload_n (q := 145) dX12_laysGame_144 rfl rfl ?_
            refine g_getA (q := 148) (kI := 30) fX12_69 (by first | assumption | exact S.at _ rfl) dX12_laysGame_145 rfl rfl (by first | assumption | exact L.at _ _ rfl | exact LK.at (by assumption) _ _ rfl | ((repeat first | rewrite [wr_na (by decide)] | rewrite [wr_nk (by decide)] | rewrite [wa_na (by decide)]); first | assumption | exact LK.at (by assumption) _ _ rfl) | exact rfl) ?_
            refine g_iload_n (q := 149) dX12_laysGame_148 rfl rfl ?_
            refine g_iaload (q := 150) (by first | assumption | exact S.at _ rfl) (by omega) (by omega) (by omega) dX12_laysGame_149 rfl ?_
            refine g_aload_n (q := 151) dX12_laysGame_150 rfl rfl ?_
            refine g_getA (q := 154) (kI := 28) fX12_63 (by first | assumption | exact S.at _ rfl) dX12_laysGame_151 rfl rfl (by first | assumption | exact L.at _ _ rfl | exact LK.at (by assumption) _ _ rfl | ((repeat first | rewrite [wr_na (by decide)] | rewrite [wr_nk (by decide)] | rewrite [wa_na (by decide)]); first | assumption | exact LK.at (by assumption) _ _ rfl) | exact rfl) ?_
            refine g_iload_n (q := 155) dX12_laysGame_154 rfl rfl ?_
            refine g_iaload (q := 156) (by first | assumption | exact S.at _ rfl) (by omega) (by omega) (by omega) dX12_laysGame_155 rfl ?_
            refine g_icmp_lt (q := 159) (tg := 174) dX12_laysGame_156 (by decide) rfl (fun c_156 => ?_) (fun c_156 => ?_)
            · rw [v1, v3] at c_156
              refine g_iconst (q := 175) dX12_laysGame_174 rfl ?_
              refine g_goto (q := 179) dX12_laysGame_175 (by decide) ?_
              refine nxt 1 (Or.inr ⟨rfl, Or.inl ?_⟩)
              rcases h1 with h | h
              · rw [h] at c_156
                exact absurd c_156 (Int.lt_irrefl _)
              · exact h.2
            · rw [v1, v3] at c_156
              have k1 : c2 109 j = c 107 j := by
                rcases h1 with h | h
                · exact h
                · rw [h.1, h.2] at c_156
                  exact absurd c_156 (by unfold w32; omega)
              refine g_aload_n (q := 160) dX12_laysGame_159 rfl rfl ?_
              refine g_getA (q := 163) (kI := 31) fX12_72 (by first | assumption | exact S.at _ rfl) dX12_laysGame_160 rfl rfl (by first | assumption | exact L.at _ _ rfl | exact LK.at (by assumption) _ _ rfl | ((repeat first | rewrite [wr_na (by decide)] | rewrite [wr_nk (by decide)] | rewrite [wa_na (by decide)]); first | assumption | exact LK.at (by assumption) _ _ rfl) | exact rfl) ?_
              refine g_iload_n (q := 164) dX12_laysGame_163 rfl rfl ?_
              refine g_iaload (q := 165) (by first | assumption | exact S.at _ rfl) (by omega) (by omega) (by omega) dX12_laysGame_164 rfl ?_
              refine g_aload_n (q := 166) dX12_laysGame_165 rfl rfl ?_
              refine g_getA (q := 169) (kI := 29) fX12_66 (by first | assumption | exact S.at _ rfl) dX12_laysGame_166 rfl rfl (by first | assumption | exact L.at _ _ rfl | exact LK.at (by assumption) _ _ rfl | ((repeat first | rewrite [wr_na (by decide)] | rewrite [wr_nk (by decide)] | rewrite [wa_na (by decide)]); first | assumption | exact LK.at (by assumption) _ _ rfl) | exact rfl) ?_
              refine g_iload_n (q := 170) dX12_laysGame_169 rfl rfl ?_
              refine g_iaload (q := 171) (by first | assumption | exact S.at _ rfl) (by omega) (by omega) (by omega) dX12_laysGame_170 rfl ?_
              refine g_icmp_ge (q := 174) (tg := 178) dX12_laysGame_171 (by decide) rfl (fun c_171 => ?_) (fun c_171 => ?_)
              · rw [v2, v4] at c_171
                have k2 : c2 110 j = c 108 j := by
                  rcases h2 with h | h
                  · exact h
                  · rw [h.1, h.2] at c_171
                    exact absurd c_171 (by unfold w32; omega)
                refine g_iconst (q := 179) dX12_laysGame_178 rfl ?_
                exact nxt 0 (Or.inl ⟨rfl, k1, k2⟩)
              · rw [v2, v4] at c_171
                refine g_iconst (q := 175) dX12_laysGame_174 rfl ?_
                refine g_goto (q := 179) dX12_laysGame_175 (by decide) ?_
                refine nxt 1 (Or.inr ⟨rfl, Or.inr ?_⟩)
                rcases h2 with h | h
                · rw [h] at c_171
                  exact absurd c_171 (Int.lt_irrefl _)
                · exact h.2
        · rintro more c3 ⟨-, e3, i1, i2, i3⟩
          have e3' : eqBut [107, 108, 109, 110] c1 c3 := (e.tr (e2.mono (by decide))).tr (e3.mono (by decide))
          have I3 : ∀ f x, 0 ≤ x → x < 700 → exS (c3 (rG f) x) (fun m => gP β mk tone f m x) (lv + 1) := by
            intro f x x0 x1
            cases f
            · show exS (c3 108 x) _ _
              rw [(i1 x x0 x1).2]
              exact (hx x x0 x1).2
            · show exS (c3 107 x) _ _
              rw [(i1 x x0 x1).1]
              exact (hx x x0 x1).1
          refine g_iload_n (q := 137) dX12_laysGame_136 rfl rfl ?_
          refine g_sipush (q := 140) dX12_laysGame_137 (by decide +kernel) rfl ?_
          refine g_icmp_ge (q := 143) (tg := 211) dX12_laysGame_140 (by decide) rfl (fun c_140 => ?_) (fun c_140 => ?_)
          · refine g_goto (q := 55) dX12_laysGame_211 (by decide) ?_
            rcases i3 with ⟨rfl, a⟩ | ⟨rfl, y, y0, y1, a⟩
            · have same : ∀ f x, 0 ≤ x → x < 700 → c3 (rG f) x = c (rG f) x := by
                intro f x x0 x1
                cases f
                · show c3 108 x = c 108 x
                  rw [(i1 x x0 x1).2, (a x x0 x1).2]
                · show c3 107 x = c 107 x
                  rw [(i1 x x0 x1).1, (a x x0 x1).1]
              have stp := gP_stop (β := β) (mk := mk) (tone := tone) (lv := lv) (fun f x x0 x1 hg => by
                have h1 := I3 f x x0 x1
                rw [same f x x0 x1] at h1
                rcases I.1 f x x0 x1 with ⟨g, -⟩ | ⟨i, g1, g2, g3, -⟩
                · exact absurd hg (h1.no g (by omega) _ (Nat.le_refl _))
                · exact gW_le g1 g3)
              refine g_iload_n (q := 56) dX12_laysGame_55 rfl rfl ?_
              refine g_if_eq (q := 59) (tg := 214) dX12_laysGame_56 (by decide) rfl (fun c_56 => ?_) (fun c_56 => ?_)
              · refine last c3 _ e3' ?_
                intro f x x0 x1
                rw [same f x x0 x1]
                rcases I.1 f x x0 x1 with ⟨g, h⟩ | ⟨i, g1, g2, g3, g4⟩
                · exact Or.inl ⟨g, fun m hm => h lv (Nat.le_refl _) (stp m f x x0 x1 hm)⟩
                · exact Or.inr ⟨i, by omega, g2, g3, g4⟩
              · exact absurd rfl c_56
            · refine ih (lv + 1) c3 _ (by omega) e3' ⟨I3, fun i a1 a2 => ?_⟩
              by_cases hi : i = lv + 1
              · subst hi
                rcases a with a | a
                · exact ⟨true, y, ⟨y0, y1⟩, by show c3 107 y = _; rw [(i1 y y0 y1).1]; exact a⟩
                · exact ⟨false, y, ⟨y0, y1⟩, by show c3 108 y = _; rw [(i1 y y0 y1).2]; exact a⟩
              · obtain ⟨f, x, ⟨x0, x1⟩, hv⟩ := I.2 i a1 (by omega)
                refine ⟨f, x, ⟨x0, x1⟩, ?_⟩
                cases f
                · have hv' : c 108 x = i := hv
                  show c3 108 x = _
                  rw [(i1 x x0 x1).2]
                  rcases hst2 x x0 x1 with h | h
                  · rw [h, hv']
                  · omega
                · have hv' : c 107 x = i := hv
                  show c3 107 x = _
                  rw [(i1 x x0 x1).1]
                  rcases hst1 x x0 x1 with h | h
                  · rw [h, hv']
                  · omega
          · exact absurd c_140 (by decide)
      refine g_iload_n (q := 56) dX12_laysGame_55 rfl rfl ?_
      refine g_if_eq (q := 59) (tg := 214) dX12_laysGame_56 (by decide) rfl (fun c_56 => ?_) (fun c_56 => ?_)
      · exact absurd c_56 (by decide)
      · refine g_iconst (q := 60) dX12_laysGame_59 rfl ?_
        refine s_istore_n_4_2 (q := 61) dX12_laysGame_60 rfl rfl rfl ?_
        refine g_iconst (q := 62) dX12_laysGame_61 rfl ?_
        refine s_istore_n_4_3 (q := 63) dX12_laysGame_62 rfl rfl rfl ?_
        refine g_for (fun j => [some (.inr (.inr 92)), some (.inl tone), some (.inl 0), some (.inl j)]) (fun j c2 => 0 ≤ j ∧ eqBut [109, 110] c c2 ∧ ∀ x, 0 ≤ x → x < j → exS (c2 109 x) (fun m => gP β mk tone true m x) (lv + 1) ∧ exS (c2 110 x) (fun m => gP β mk tone false m x) (lv + 1)) 700 ?_ ?_ (i := 0) (by omega) ⟨by omega, eqBut.rf, fun x _ _ => by omega⟩ (by simp [lsSub])
        · rintro j c2 hj ⟨j0, e2, i1⟩ kk
          have L2 : LK c2 := (L1.eb e rfl).eb e2 rfl
          have D2 : LD c2 β mk (-1) (-1) 9 := (D.eq (e 100 (by decide)) (e 103 (by decide))).eq (e2 100 (by decide)) (e2 103 (by decide))
          have q1 : c2 107 = c 107 := e2 107 (by decide)
          have q2 : c2 108 = c 108 := e2 108 (by decide)
          have ha1 : ∀ y ∈ scG β mk j, exS (c 107 y) (fun m => gP β mk tone true m y) lv := fun y hy => I1 y (scG_in hy).1 (scG_in hy).2
          have ha2 : ∀ y ∈ scG β mk j, exS (c 108 y) (fun m => gP β mk tone false m y) lv := fun y hy => I2 y (scG_in hy).1 (scG_in hy).2
          have fin2 : ∀ (v w : Int), exS v (fun m => gP β mk tone true m j) (lv + 1) → exS w (fun m => gP β mk tone false m j) (lv + 1) → G (mkK YX12_laysGame (d + 6) sh sh Po) 127 [some (.inr (.inr 92)), some (.inl tone), some (.inl 0), some (.inl j)] [.inl w, .inl j, .inr (.inr 110)] sh (wr c2 109 j v) := by
            intro v w h1 h2
            refine g_iastore (q := 128) (by first | assumption | exact S.at _ rfl) (by omega) (by omega) (by omega) dX12_laysGame_127 rfl ?_
            refine s_iinc_4_3 (q := 131) dX12_laysGame_128 rfl rfl rfl ?_
            refine g_goto (q := 63) dX12_laysGame_131 (by decide) ?_
            refine kk _ _ (by simp [lsSub]) ⟨by omega, (e2.wr (by decide)).wr (by decide), fun x a b => ?_⟩
            by_cases hxj : x = j
            · subst hxj
              rw [wr_na (by decide), wr_eq, wr_eq]
              exact ⟨h1, h2⟩
            · rw [wr_na (by decide), wr_nk hxj, wr_nk hxj, wr_na (by decide)]
              exact i1 x a (by omega)
          have fin1 : ∀ v : Int, exS v (fun m => gP β mk tone true m j) (lv + 1) → G (mkK YX12_laysGame (d + 6) sh sh Po) 98 [some (.inr (.inr 92)), some (.inl tone), some (.inl 0), some (.inl j)] [.inl v, .inl j, .inr (.inr 109)] sh c2 := by
            intro v h1
            have L3 : LK (wr c2 109 j v) := L2.wr (lkF_none rfl j)
            have D3 : LD (wr c2 109 j v) β mk (-1) (-1) 9 := D2.eq (wr_other _ _ _ _ _ (by decide)) (wr_other _ _ _ _ _ (by decide))
            have q3 : wr c2 109 j v 107 = c 107 := by rw [wr_other _ _ _ _ _ (by decide)]; exact q1
            have q4 : wr c2 109 j v 108 = c 108 := by rw [wr_other _ _ _ _ _ (by decide)]; exact q2
            refine g_iastore (q := 99) (by first | assumption | exact S.at _ rfl) (by omega) (by omega) (by omega) dX12_laysGame_98 rfl ?_
            refine g_aload_n (q := 100) dX12_laysGame_99 rfl rfl ?_
            refine g_getA (q := 103) (kI := 31) fX12_72 (by first | assumption | exact S.at _ rfl) dX12_laysGame_100 rfl rfl (by first | assumption | exact L.at _ _ rfl | exact LK.at (by assumption) _ _ rfl | ((repeat first | rewrite [wr_na (by decide)] | rewrite [wr_nk (by decide)] | rewrite [wa_na (by decide)]); first | assumption | exact LK.at (by assumption) _ _ rfl) | exact rfl) ?_
            refine g_iload_n (q := 104) dX12_laysGame_103 rfl rfl ?_
            refine g_aload_n (q := 105) dX12_laysGame_104 rfl rfl ?_
            refine g_getA (q := 108) (kI := 29) fX12_66 (by first | assumption | exact S.at _ rfl) dX12_laysGame_105 rfl rfl (by first | assumption | exact L.at _ _ rfl | exact LK.at (by assumption) _ _ rfl | ((repeat first | rewrite [wr_na (by decide)] | rewrite [wr_nk (by decide)] | rewrite [wa_na (by decide)]); first | assumption | exact LK.at (by assumption) _ _ rfl) | exact rfl) ?_
            refine g_iload_n (q := 109) dX12_laysGame_108 rfl rfl ?_
            refine g_iaload (q := 110) (by first | assumption | exact S.at _ rfl) (by omega) (by omega) (by omega) dX12_laysGame_109 rfl ?_
            refine g_if_ne (q := 113) (tg := 117) dX12_laysGame_110 (by decide) rfl (fun c_110 => ?_) (fun c_110 => ?_)
            · rw [q4] at c_110
              have hne : c 108 j ≠ 0 := fun z => c_110 (by rw [z]; rfl)
              refine g_aload_n (q := 118) dX12_laysGame_117 rfl rfl ?_
              refine g_iload_n (q := 119) dX12_laysGame_118 rfl rfl ?_
              refine g_aload_n (q := 120) dX12_laysGame_119 rfl rfl ?_
              refine g_getA (q := 123) (kI := 28) fX12_63 (by first | assumption | exact S.at _ rfl) dX12_laysGame_120 rfl rfl (by first | assumption | exact L.at _ _ rfl | exact LK.at (by assumption) _ _ rfl | ((repeat first | rewrite [wr_na (by decide)] | rewrite [wr_nk (by decide)] | rewrite [wa_na (by decide)]); first | assumption | exact LK.at (by assumption) _ _ rfl) | exact rfl) ?_
              refine g_iconst (q := 124) dX12_laysGame_123 rfl ?_
              refine g_callV (q := 127) lX12_423 mX12_behindBy nX12_behindBy rfl (tw_behindBy (d + 5) sh _ (a := 107) (l := 0) S L3 D3 hB j0 hj (Or.inl rfl) (Or.inl rfl) (by rw [q3]; exact r1')) (by first | assumption | exact S.at _ rfl) rfl rfl shLe.rf (rmOk.mk (by omega) (by first | exact shLe.rf | assumption)) (Nat.le_of_ble_eq_true rfl) dX12_laysGame_124 rfl rfl (kI fun r c4 hp4 => ?_)
              obtain ⟨hr, rfl⟩ := hp4
              rw [q3] at hr
              exact fin2 v r h1 (bh_second (by omega) (I2 j j0 hj) hne ha1 hr)
            · rw [q4] at c_110
              have hz : c 108 j = 0 := by
                have := r2' j j0 hj
                unfold w32 at c_110
                omega
              refine g_iconst (q := 114) dX12_laysGame_113 rfl ?_
              refine g_goto (q := 127) dX12_laysGame_114 (by decide) ?_
              refine fin2 v 0 h1 ?_
              have := (I2 j j0 hj).up0 (by omega)
              rw [hz] at this
              exact this
          refine g_iload_n (q := 64) dX12_laysGame_63 rfl rfl ?_
          refine g_sipush (q := 67) dX12_laysGame_64 (by decide +kernel) rfl ?_
          refine g_icmp_ge (q := 70) (tg := 134) dX12_laysGame_67 (by decide) rfl (fun c_67 => ?_) (fun c_67 => ?_)
          · exact absurd c_67 (by unfold w32; omega)
          · refine g_aload_n (q := 71) dX12_laysGame_70 rfl rfl ?_
            refine g_getA (q := 74) (kI := 30) fX12_69 (by first | assumption | exact S.at _ rfl) dX12_laysGame_71 rfl rfl (by first | assumption | exact L.at _ _ rfl | exact LK.at (by assumption) _ _ rfl | ((repeat first | rewrite [wr_na (by decide)] | rewrite [wr_nk (by decide)] | rewrite [wa_na (by decide)]); first | assumption | exact LK.at (by assumption) _ _ rfl) | exact rfl) ?_
            refine g_iload_n (q := 75) dX12_laysGame_74 rfl rfl ?_
            refine g_aload_n (q := 76) dX12_laysGame_75 rfl rfl ?_
            refine g_getA (q := 79) (kI := 28) fX12_63 (by first | assumption | exact S.at _ rfl) dX12_laysGame_76 rfl rfl (by first | assumption | exact L.at _ _ rfl | exact LK.at (by assumption) _ _ rfl | ((repeat first | rewrite [wr_na (by decide)] | rewrite [wr_nk (by decide)] | rewrite [wa_na (by decide)]); first | assumption | exact LK.at (by assumption) _ _ rfl) | exact rfl) ?_
            refine g_iload_n (q := 80) dX12_laysGame_79 rfl rfl ?_
            refine g_iaload (q := 81) (by first | assumption | exact S.at _ rfl) (by omega) (by omega) (by omega) dX12_laysGame_80 rfl ?_
            refine g_if_ne (q := 84) (tg := 88) dX12_laysGame_81 (by decide) rfl (fun c_81 => ?_) (fun c_81 => ?_)
            · rw [q1] at c_81
              have hne : c 107 j ≠ 0 := fun z => c_81 (by rw [z]; rfl)
              refine g_aload_n (q := 89) dX12_laysGame_88 rfl rfl ?_
              refine g_iload_n (q := 90) dX12_laysGame_89 rfl rfl ?_
              refine g_aload_n (q := 91) dX12_laysGame_90 rfl rfl ?_
              refine g_getA (q := 94) (kI := 29) fX12_66 (by first | assumption | exact S.at _ rfl) dX12_laysGame_91 rfl rfl (by first | assumption | exact L.at _ _ rfl | exact LK.at (by assumption) _ _ rfl | ((repeat first | rewrite [wr_na (by decide)] | rewrite [wr_nk (by decide)] | rewrite [wa_na (by decide)]); first | assumption | exact LK.at (by assumption) _ _ rfl) | exact rfl) ?_
              refine g_iconst (q := 95) dX12_laysGame_94 rfl ?_
              refine g_callV (q := 98) lX12_423 mX12_behindBy nX12_behindBy rfl (tw_behindBy (d + 5) sh _ (a := 108) (l := 1) S L2 D2 hB j0 hj (Or.inr rfl) (Or.inr rfl) (by rw [q2]; exact r2')) (by first | assumption | exact S.at _ rfl) rfl rfl shLe.rf (rmOk.mk (by omega) (by first | exact shLe.rf | assumption)) (Nat.le_of_ble_eq_true rfl) dX12_laysGame_95 rfl rfl (kI fun r c4 hp4 => ?_)
              obtain ⟨hr, rfl⟩ := hp4
              rw [q2] at hr
              exact fin1 r (bh_first (by omega) (I1 j j0 hj) hne ha2 hr)
            · rw [q1] at c_81
              have hz : c 107 j = 0 := by
                have := r1' j j0 hj
                unfold w32 at c_81
                omega
              refine g_iconst (q := 85) dX12_laysGame_84 rfl ?_
              refine g_goto (q := 98) dX12_laysGame_85 (by decide) ?_
              refine fin1 0 ?_
              have := (I1 j j0 hj).up0 (by omega)
              rw [hz] at this
              exact this
        · rintro c2 ⟨-, e2, i1⟩
          refine g_iload_n (q := 64) dX12_laysGame_63 rfl rfl ?_
          refine g_sipush (q := 67) dX12_laysGame_64 (by decide +kernel) rfl ?_
          refine g_icmp_ge (q := 70) (tg := 134) dX12_laysGame_67 (by decide) rfl (fun c_67 => ?_) (fun c_67 => ?_)
          · exact second c2 _ e2 i1
          · exact absurd c_67 (by decide)
  refine g_iconst (q := 5) dX12_laysGame_4 rfl ?_
  refine s_istore_n_4_2 (q := 6) dX12_laysGame_5 rfl rfl rfl ?_
  refine g_for (fun j => [some (.inr (.inr 92)), some (.inl tone), some (.inl j), none]) (fun j c => 0 ≤ j ∧ eqBut [107, 108, 109, 110] c1 c ∧ ∀ f x, 0 ≤ x → x < j → exS (c (rG f) x) (fun m => gP β mk tone f m x) 0) 700 ?_ ?_ (i := 0) (by omega) ⟨by omega, eqBut.rf, fun f x _ _ => by omega⟩ (by simp [lsSub])
  · rintro j c hj ⟨j0, e, i1⟩ kk
    have L2 : LK c := L1.eb e rfl
    have D2 : LD c β mk (-1) (-1) 9 := D.eq (e 100 (by decide)) (e 103 (by decide))
    have nxt : ∀ v, (∀ f, exS v (fun m => gP β mk tone f m j) 0) → G (mkK YX12_laysGame (d + 6) sh sh Po) 34 [some (.inr (.inr 92)), some (.inl tone), some (.inl j), none] [.inl v, .inl j, .inr (.inr 107)] sh c := by
      intro v hv
      have L3 : LK (wr c 107 j v) := L2.wr (lkF_none rfl j)
      have q1 : wr c 107 j v 107 j = v := wr_eq
      refine g_iastore (q := 35) (by first | assumption | exact S.at _ rfl) (by omega) (by omega) (by omega) dX12_laysGame_34 rfl ?_
      refine g_aload_n (q := 36) dX12_laysGame_35 rfl rfl ?_
      refine g_getA (q := 39) (kI := 29) fX12_66 (by first | assumption | exact S.at _ rfl) dX12_laysGame_36 rfl rfl (by first | assumption | exact L.at _ _ rfl | exact LK.at (by assumption) _ _ rfl | ((repeat first | rewrite [wr_na (by decide)] | rewrite [wr_nk (by decide)] | rewrite [wa_na (by decide)]); first | assumption | exact LK.at (by assumption) _ _ rfl) | exact rfl) ?_
      refine g_iload_n (q := 40) dX12_laysGame_39 rfl rfl ?_
      refine g_aload_n (q := 41) dX12_laysGame_40 rfl rfl ?_
      refine g_getA (q := 44) (kI := 28) fX12_63 (by first | assumption | exact S.at _ rfl) dX12_laysGame_41 rfl rfl (by first | assumption | exact L.at _ _ rfl | exact LK.at (by assumption) _ _ rfl | ((repeat first | rewrite [wr_na (by decide)] | rewrite [wr_nk (by decide)] | rewrite [wa_na (by decide)]); first | assumption | exact LK.at (by assumption) _ _ rfl) | exact rfl) ?_
      refine g_iload_n (q := 45) dX12_laysGame_44 rfl rfl ?_
      refine g_iaload (q := 46) (by first | assumption | exact S.at _ rfl) (by omega) (by omega) (by omega) dX12_laysGame_45 rfl ?_
      rw [q1]
      refine g_iastore (q := 47) (by first | assumption | exact S.at _ rfl) (by omega) (by omega) (by omega) dX12_laysGame_46 rfl ?_
      refine s_iinc_4_2 (q := 50) dX12_laysGame_47 rfl rfl rfl ?_
      refine g_goto (q := 6) dX12_laysGame_50 (by decide) ?_
      refine kk _ _ (by simp [lsSub]) ⟨by omega, (e.wr (by decide)).wr (by decide), fun f x a b => ?_⟩
      by_cases hxj : x = j
      · subst hxj
        cases f
        · show exS (wr (wr c 107 x v) 108 x v 108 x) _ _
          rw [wr_eq]
          exact hv false
        · show exS (wr (wr c 107 x v) 108 x v 107 x) _ _
          rw [wr_na (by decide), wr_eq]
          exact hv true
      · have := i1 f x a (by omega)
        cases f
        · show exS (wr (wr c 107 j v) 108 j v 108 x) _ _
          rw [wr_nk hxj, wr_na (by decide)]
          exact this
        · show exS (wr (wr c 107 j v) 108 j v 107 x) _ _
          rw [wr_na (by decide), wr_nk hxj]
          exact this
    refine g_iload_n (q := 7) dX12_laysGame_6 rfl rfl ?_
    refine g_sipush (q := 10) dX12_laysGame_7 (by decide +kernel) rfl ?_
    refine g_icmp_ge (q := 13) (tg := 53) dX12_laysGame_10 (by decide) rfl (fun c_10 => ?_) (fun c_10 => ?_)
    · exact absurd c_10 (by unfold w32; omega)
    · refine g_aload_n (q := 14) dX12_laysGame_13 rfl rfl ?_
      refine g_getA (q := 17) (kI := 28) fX12_63 (by first | assumption | exact S.at _ rfl) dX12_laysGame_14 rfl rfl (by first | assumption | exact L.at _ _ rfl | exact LK.at (by assumption) _ _ rfl | ((repeat first | rewrite [wr_na (by decide)] | rewrite [wr_nk (by decide)] | rewrite [wa_na (by decide)]); first | assumption | exact LK.at (by assumption) _ _ rfl) | exact rfl) ?_
      refine g_iload_n (q := 18) dX12_laysGame_17 rfl rfl ?_
      refine g_aload_n (q := 19) dX12_laysGame_18 rfl rfl ?_
      refine g_iload_n (q := 20) dX12_laysGame_19 rfl rfl ?_
      refine g_iload_n (q := 21) dX12_laysGame_20 rfl rfl ?_
      refine g_callV (q := 24) lX12_335 mX12_isEnd nX12_isEnd rfl (tw_isEnd (d + 4) sh _ S L2 D2 j0 hj t0 t1) (by first | assumption | exact S.at _ rfl) rfl rfl shLe.rf (rmOk.mk (by omega) (by first | exact shLe.rf | assumption)) (Nat.le_of_ble_eq_true rfl) dX12_laysGame_21 rfl rfl (kI fun r_ c_ hp => ?_)
      obtain ⟨hr, hq⟩ := hp
      replace hr := hr.symm
      replace hq := hq.symm
      subst hr hq
      refine g_if_eq (q := 27) (tg := 31) dX12_laysGame_24 (by decide) rfl (fun c_24 => ?_) (fun c_24 => ?_)
      · have hne := wb0.mp c_24
        refine g_ldcw (q := 34) dX12_laysGame_31 kX12_334 rfl ?_
        refine nxt _ (fun f => Or.inl ⟨rfl, fun m hm hg => ?_⟩)
        have : m = 0 := by omega
        subst this
        cases f <;> exact hne hg
      · have hen := wbn.mp c_24
        refine g_iconst (q := 28) dX12_laysGame_27 rfl ?_
        refine g_goto (q := 34) dX12_laysGame_28 (by decide) ?_
        refine nxt _ (fun f => Or.inr ⟨0, Nat.le_refl _, rfl, ?_, fun m hm => by omega⟩)
        cases f <;> exact hen
  · rintro c ⟨-, e, i1⟩
    refine g_iload_n (q := 7) dX12_laysGame_6 rfl rfl ?_
    refine g_sipush (q := 10) dX12_laysGame_7 (by decide +kernel) rfl ?_
    refine g_icmp_ge (q := 13) (tg := 53) dX12_laysGame_10 (by decide) rfl (fun c_10 => ?_) (fun c_10 => ?_)
    · refine g_iconst (q := 54) dX12_laysGame_53 rfl ?_
      refine s_istore_n_4_2 (q := 55) dX12_laysGame_54 rfl rfl rfl ?_
      exact rounds 1401 0 c _ (by omega) e ⟨i1, fun i h1 h2 => by omega⟩
    · exact absurd c_10 (by decide)
end
