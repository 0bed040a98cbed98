/-! Game: rounds -/
theorem exA_at {f : Int → Int} {P : Nat → Int → Prop} (hP : ∀ m n st, m ≤ n → P m st → P n st) {n m : Nat} {st : Int} (hm : n ≤ m) (h : exA f P m st) : (f st ≠ -1 ∧ f st < ((n + 1 : Nat) : Int)) ↔ P n st := by
  rcases h with ⟨h1, h2⟩ | ⟨i, i1, i2, i3, i4⟩
  · rw [h1]
    constructor
    · rintro ⟨h, -⟩
      exact absurd rfl h
    · intro h
      exact absurd (hP n m st hm h) h2
  · rw [i2]
    constructor
    · rintro ⟨-, h⟩
      exact hP i n st (by omega) i3
    · intro h
      refine ⟨by omega, ?_⟩
      have : ¬ n < i := fun hh => i4 n hh h
      omega
def gP (β : Bk) (mk : Int → Int) (tone : Int) (f : Bool) (n : Nat) (st : Int) : Prop := gW (scG β mk) (enG β tone) n f st
theorem gP_le {β : Bk} {mk : Int → Int} {tone : Int} {f : Bool} : ∀ m n st, m ≤ n → gP β mk tone f m st → gP β mk tone f n st := fun _ _ _ h hg => gW_le h hg
def tG (f : Bool) : Int := if f = true then 88 else 89
def exO (f : Int → Int) (P : Nat → Int → Prop) (lv : Nat) (st : Int) : Prop := exA f P lv st ∨ exA f P (lv + 1) st
theorem exO.keep {f : Int → Int} {P : Nat → Int → Prop} {lv : Nat} {st : Int} (h : exO f P lv st) (hn : f st ≠ -1) : exA f P (lv + 1) st := by
  rcases h with (⟨h, -⟩ | ⟨i, i1, i2⟩) | h
  · exact absurd h hn
  · exact Or.inr ⟨i, by omega, i2⟩
  · exact h
theorem exO.no {f : Int → Int} {P : Nat → Int → Prop} (hP : ∀ m n st, m ≤ n → P m st → P n st) {lv : Nat} {st : Int} (h : exO f P lv st) (hn : f st = -1) : ¬ P lv st := by
  rcases h with (⟨-, h⟩ | ⟨i, i1, i2, -⟩) | (⟨-, h⟩ | ⟨i, i1, i2, -⟩)
  · exact h
  · omega
  · exact fun z => h (hP _ _ _ (by omega) z)
  · omega
theorem exA_new {f : Int → Int} {P : Nat → Int → Prop} (hP : ∀ m n st, m ≤ n → P m st → P n st) {lv : Nat} {st : Int} (h : ¬ P lv st) (h2 : P (lv + 1) st) (hf : f st = ((lv + 1 : Nat) : Int)) : exA f P (lv + 1) st :=
  Or.inr ⟨lv + 1, Nat.le_refl _, hf, h2, fun i hi hp => h (hP i lv st (by omega) hp)⟩
theorem exA_cong {f g : Int → Int} {P : Nat → Int → Prop} {n : Nat} {st : Int} (h : exA f P n st) (e : g st = f st) : exA g P n st := by
  unfold exA at *
  rw [e]
  exact h
theorem gW_stop {sc : Int → List Int} {en : Int → Prop} {R : Int → Prop} {lv : Nat} (hcl : ∀ st, R st → ∀ x ∈ sc st, R x) (h : ∀ f st, R st → gW sc en (lv + 1) f st → gW sc en lv f st) : ∀ (m : Nat) (f : Bool) (st : Int), R st → gW sc en m f st → gW sc en lv f st
  | 0, f, st, _, hg => gW_le (Nat.zero_le _) hg
  | m + 1, true, st, hr, hg => by
    apply h true st hr
    rcases hg with hg | ⟨x, hx, hg⟩
    · exact Or.inl hg
    · exact Or.inr ⟨x, hx, gW_stop hcl h m false x (hcl st hr x hx) hg⟩
  | m + 1, false, st, hr, hg => by
    apply h false st hr
    rcases hg with hg | ⟨hn, hg⟩
    · exact Or.inl hg
    · exact Or.inr ⟨hn, fun x hx => gW_stop hcl h m true x (hcl st hr x hx) (hg x hx)⟩
/-- the states that a search came to -/
def Rq (c : mbCt) (q : Int) (n : Nat) (st : Int) : Prop := ∃ j, j < n ∧ (ndQ c q j).1 = st
def SI (ct : mbCt) (b : Int) (β : Bk) (mk : Int → Int) (P : Bool → Nat → Int → Prop) (R : Int → Prop) (lv : Nat) (more : Int) (c : mbCt) : Prop := eqBut [68, 69, 72, 73, 75, 76, 88, 89, 90] ct c ∧ MV c b β mk ∧ z01 (c 90) ∧ (∀ f, rngG (c (tG f))) ∧ (∀ f st, R st → exO (c (tG f)) (P f) lv st) ∧ (∀ f st, R st → c (tG f) st = ((lv + 1 : Nat) : Int) → c 90 (st / 7) = 1) ∧ ((more = 0 ∧ ∀ f st, R st → c (tG f) st ≠ ((lv + 1 : Nat) : Int)) ∨ (more = 1 ∧ ∃ f st, R st ∧ c (tG f) st = ((lv + 1 : Nat) : Int))) ∧ (∀ f st, R st → ct (tG f) st ≠ -1 → c (tG f) st = ct (tG f) st)
theorem tG_ne (f : Bool) : tG f ≠ 90 := by cases f <;> decide
theorem tG_far (f : Bool) : tG f ∉ ([68, 69, 72, 73, 75, 76] : List Int) := by cases f <;> decide
theorem SI.mvt {ct : mbCt} {b : Int} {β : Bk} {mk : Int → Int} {P : Bool → Nat → Int → Prop} {R : Int → Prop} {lv : Nat} {more : Int} {c c2 : mbCt} (h : SI ct b β mk P R lv more c) (m : MVt c c2 b β mk) : SI ct b β mk P R lv more c2 := by
  obtain ⟨h1, h2, h3, h4, h5, h6, h7, h8⟩ := h
  have e : ∀ f, c2 (tG f) = c (tG f) := fun f => m.1 _ (tG_far f)
  have e90 : c2 90 = c 90 := m.1 90 (by decide)
  refine ⟨h1.tr (m.1.mono (by decide)), m.2, by rw [e90]; exact h3, fun f => by rw [e f]; exact h4 f, fun f st hr => by rw [e f]; exact h5 f st hr, fun f st hr => by rw [e f, e90]; exact h6 f st hr, ?_, fun f st hr => by rw [e f]; exact h8 f st hr⟩
  rcases h7 with ⟨a, h⟩ | ⟨a, f, st, h⟩
  · exact Or.inl ⟨a, fun f st hr => by rw [e f]; exact h f st hr⟩
  · exact Or.inr ⟨a, f, st, by rw [e f]; exact h⟩
theorem SI.put {ct : mbCt} {b : Int} {β : Bk} {mk : Int → Int} {P : Bool → Nat → Int → Prop} {R : Int → Prop} {lv : Nat} {more : Int} {c : mbCt} (h : SI ct b β mk P R lv more c) (hP : ∀ f m n st, m ≤ n → P f m st → P f n st) (hlv : lv < 1400) (f : Bool) {st : Int} (hr : R st) (s0 : 0 ≤ st) (s1 : st < 700) (hn : c (tG f) st = -1) (hp : P f (lv + 1) st) : SI ct b β mk P R lv 1 (wr (wr c (tG f) st ((lv + 1 : Nat) : Int)) 90 (st / 7) 1) ∧ (∀ f' x, R x → exA (c (tG f')) (P f') (lv + 1) x → exA (wr (wr c (tG f) st ((lv + 1 : Nat) : Int)) 90 (st / 7) 1 (tG f')) (P f') (lv + 1) x) ∧ exA (wr (wr c (tG f) st ((lv + 1 : Nat) : Int)) 90 (st / 7) 1 (tG f)) (P f) (lv + 1) st := by
  obtain ⟨h1, h2, h3, h4, h5, h6, h7, h8⟩ := h
  generalize hc' : wr (wr c (tG f) st ((lv + 1 : Nat) : Int)) 90 (st / 7) 1 = c'
  have eo : ∀ x, x ≠ tG f → x ≠ 90 → c' x = c x := fun x hx hx2 => by rw [← hc', wr_other _ _ _ _ x hx2, wr_other _ _ _ _ x hx]
  have e1 : ∀ f' x, (f' = f ∧ x = st ∧ c' (tG f') x = ((lv + 1 : Nat) : Int)) ∨ (¬ (f' = f ∧ x = st) ∧ c' (tG f') x = c (tG f') x) := by
    intro f' x
    by_cases ef : f' = f
    · subst ef
      by_cases ex : x = st
      · subst ex
        refine Or.inl ⟨rfl, rfl, ?_⟩
        rw [← hc', wr_na (tG_ne _), wr_eq]
      · refine Or.inr ⟨fun z => ex z.2, ?_⟩
        rw [← hc', wr_na (tG_ne _), wr_nk ex]
    · refine Or.inr ⟨fun z => ef z.1, ?_⟩
      rw [eo _ (by cases f <;> cases f' <;> first | exact absurd rfl ef | decide) (tG_ne _)]
  have e90 : ∀ x, c' 90 x = if x = st / 7 then 1 else c 90 x := by
    intro x
    rw [← hc']
    by_cases ex : x = st / 7
    · rw [if_pos ex, ex, wr_eq]
    · rw [if_neg ex, wr_nk ex, wr_na (fun z => tG_ne f z.symm)]
  have hnl := (h5 f st hr).no (hP f) hn
  have hself : exA (c' (tG f)) (P f) (lv + 1) st := by
    refine exA_new (hP f) hnl hp ?_
    rcases e1 f st with h | h
    · exact h.2.2
    · exact absurd ⟨rfl, rfl⟩ h.1
  have hkeep : ∀ f' x, R x → exA (c (tG f')) (P f') (lv + 1) x → exA (c' (tG f')) (P f') (lv + 1) x := by
    intro f' x hx he
    rcases e1 f' x with ⟨rfl, rfl, -⟩ | ⟨-, h⟩
    · exact hself
    · exact exA_cong he h
  have hM : MV c' b β mk := by
    rw [← hc']
    refine ((h2.x (a := tG f) (k := st) (v := ((lv + 1 : Nat) : Int)) ?_ ?_ rfl).x (a := 90) (by decide) (lkF_none rfl _) rfl)
    · cases f <;> decide
    · cases f
      · exact lkF_none rfl _
      · exact lkF_none rfl _
  refine ⟨⟨?_, hM, ?_, ?_, ?_, ?_, Or.inr ⟨rfl, f, st, hr, ?_⟩, ?_⟩, hkeep, hself⟩
  · intro x hx
    rw [eo x (by cases f <;> (intro e; rw [e] at hx; exact hx (by decide))) (by intro e; rw [e] at hx; exact hx (by decide))]
    exact h1 x hx
  · intro x x0 x1
    rw [e90]
    split
    · exact Or.inr rfl
    · exact h3 x x0 x1
  · intro f' x x0 x1
    rcases e1 f' x with ⟨-, -, h⟩ | ⟨-, h⟩
    · rw [h]; omega
    · rw [h]; exact h4 f' x x0 x1
  · intro f' x hx
    rcases e1 f' x with ⟨rfl, rfl, -⟩ | ⟨-, h⟩
    · exact Or.inr hself
    · rcases h5 f' x hx with h' | h'
      · exact Or.inl (exA_cong h' h)
      · exact Or.inr (exA_cong h' h)
  · intro f' x hx hv
    rw [e90]
    split
    · rfl
    · rename_i hne
      rcases e1 f' x with ⟨-, rfl, -⟩ | ⟨-, h⟩
      · exact absurd rfl hne
      · rw [h] at hv
        exact h6 f' x hx hv
  · rcases e1 f st with h | h
    · exact h.2.2
    · exact absurd ⟨rfl, rfl⟩ h.1
  · intro f' x hx hv
    rcases e1 f' x with ⟨rfl, rfl, -⟩ | ⟨-, h⟩
    · rw [h8 _ _ hx hv] at hn
      exact absurd hn hv
    · rw [h]
      exact h8 f' x hx hv
section
variable (d : Nat) (sh : mbSh) (ct : mbCt)
theorem c_settleWithin {q b tone : Int} {β : Bk} {mk : Int → Int} {N cnt lv : Nat} (S : SH sh) (hq1 : ct 77 1 = q) (hqn : qcN q) (sq : shA sh q = some (20, N)) (hN : N ≤ 19201) (h2 : ct 77 2 = cnt) (hcn : cnt ≤ N) (h3 : ∀ j : Nat, j < cnt → 0 ≤ ct q j ∧ ct q j < 2147483648 ∧ ct q j % 1024 < 700) (hlv : lv < 1400) (hcl : ∀ st, Rq ct q cnt st → ∀ x ∈ scG β mk st, Rq ct q cnt x) (I : SI ct b β mk (gP β mk tone) (Rq ct q cnt) lv 0 ct) (hz : z01 (ct 91)) (hqu : ∀ f st, Rq ct q cnt st → ct 91 (st / 7) = 0 → ¬ gP β mk tone f lv st → ¬ gP β mk tone f (lv + 1) st) : Mt YX1_settleWithin (d + 4) [.inr (.inr 87), .inl ((lv + 1 : Nat) : Int)] sh sh ct (pI fun r c => SI ct b β mk (gP β mk tone) (Rq ct q cnt) lv r c ∧ ∀ f st, Rq ct q cnt st → exA (c (tG f)) (gP β mk tone f) (lv + 1) st) := by
  have hP : ∀ f m n st, m ≤ n → gP β mk tone f m st → gP β mk tone f n st := fun f => gP_le
  have s88 : shA sh 88 = some (20, 700) := S.at _ rfl
  have s89 : shA sh 89 = some (20, 700) := S.at _ rfl
  have s90 : shA sh 90 = some (20, 100) := S.at _ rfl
  have s91 : shA sh 91 = some (20, 100) := S.at _ rfl
  have qf : q ∉ ([68, 69, 72, 73, 75, 76, 88, 89, 90] : List Int) := by rcases hqn with rfl | h; decide; simp; omega
  generalize hPo : (pI fun r c => SI ct b β mk (gP β mk tone) (Rq ct q cnt) lv r c ∧ ∀ f st, Rq ct q cnt st → exA (c (tG f)) (gP β mk tone f) (lv + 1) st) = Po
  generalize hn : ((lv + 1 : Nat) : Int) = n
  have loop : ∀ (k i : Nat) (more : Int) (c : mbCt) (o4 o5 : Option gV), i + k = cnt → SI ct b β mk (gP β mk tone) (Rq ct q cnt) lv more c → (∀ f j, j < i → exA (c (tG f)) (gP β mk tone f) (lv + 1) (ndQ ct q j).1) → dropL o4 = o4 → G (mkK YX1_settleWithin (d + 4) sh sh Po) 4 [some (.inr (.inr 87)), some (.inl n), some (.inl more), some (.inl i), o4, o5] [] sh c := by
    intro k
    induction k with
    | zero =>
      intro i more c o4 o5 hi hI hD ho4
      have Lc := hI.2.1.L
      have e77 : c 77 = ct 77 := hI.1 77 (by decide)
      refine g_iload_n (q := 5) dX1_settleWithin_4 rfl rfl ?_
      refine g_aload_n (q := 6) dX1_settleWithin_5 rfl rfl ?_
      refine g_getO (q := 9) (kI := 1) fX1_32 (by first | assumption | exact S.at _ rfl) dX1_settleWithin_6 rfl rfl (by first | assumption | exact L.at _ _ rfl | exact LK.at (by assumption) _ _ rfl | ((repeat first | rewrite [wr_na (by decide)] | rewrite [wr_nk (by decide)] | rewrite [wa_na (by decide)]); first | assumption | exact LK.at (by assumption) _ _ rfl) | exact rfl) ?_
      refine g_getI (q := 12) (kI := 2) fX1_59 (by first | assumption | exact S.at _ rfl) dX1_settleWithin_9 rfl rfl ?_
      rw [e77, h2]
      refine g_icmp_ge (q := 15) (tg := 137) dX1_settleWithin_12 (by decide) rfl (fun c_12 => ?_) (fun c_12 => ?_)
      · refine g_iload_n (q := 138) dX1_settleWithin_137 rfl rfl ?_
        have hm : more = 0 ∨ more = 1 := by
          rcases hI.2.2.2.2.2.2.1 with h | h
          · exact Or.inl h.1
          · exact Or.inr h.1
        refine g_zreturn dX1_settleWithin_138 rfl (nar01 hm) ?_
        rw [← hPo]
        refine ⟨_, rfl, hI, ?_⟩
        rintro f st ⟨j, hj, rfl⟩
        exact hD f j (by omega)
      · exact absurd c_12 (by unfold w32; omega)
    | succ k ih =>
      intro i more c o4 o5 hi hI hD ho4
      have Lc := hI.2.1.L
      have e77 : c 77 = ct 77 := hI.1 77 (by decide)
      have eq : c q = ct q := hI.1 q qf
      have hci := h3 i (by omega)
      have hs : 0 ≤ qSt (ct q i) ∧ qSt (ct q i) < 700 := by unfold qSt; omega
      have hR : Rq ct q cnt (qSt (ct q i)) := ⟨i, by omega, rfl⟩
      have hnd : (ndQ ct q i).1 = qSt (ct q i) := rfl
      generalize qSt (ct q i) = st at hs hR hnd
      have ed : (w32 st).tdiv (w32 7) = st / 7 := by rw [w32_id (by omega) (by omega), td_pos hs.1]; rfl
      have at131 : ∀ (c : mbCt) (more : Int), SI ct b β mk (gP β mk tone) (Rq ct q cnt) lv more c → (∀ f j, j < i → exA (c (tG f)) (gP β mk tone f) (lv + 1) (ndQ ct q j).1) → (∀ f, exA (c (tG f)) (gP β mk tone f) (lv + 1) st) → G (mkK YX1_settleWithin (d + 4) sh sh Po) 131 [some (.inr (.inr 87)), some (.inl n), some (.inl more), some (.inl i), some (.inl st), some (.inl (st / 7))] [] sh c := by
        intro c more hI hD hE
        refine s_iinc_6_3 (q := 134) dX1_settleWithin_131 rfl rfl rfl ?_
        refine g_goto (q := 4) dX1_settleWithin_134 (by decide) ?_
        have := ih (i + 1) more c (some (.inl st)) (some (.inl (st / 7))) (by omega) hI ?_ rfl
        · rw [Int.natCast_succ] at this
          exact this
        · intro f j hj
          by_cases e : j = i
          · subst e
            rw [hnd]
            exact hE f
          · exact hD f j (by omega)
      have at82 : ∀ (c : mbCt) (more : Int), SI ct b β mk (gP β mk tone) (Rq ct q cnt) lv more c → (∀ f j, j < i → exA (c (tG f)) (gP β mk tone f) (lv + 1) (ndQ ct q j).1) → exA (c (tG true)) (gP β mk tone true) (lv + 1) st → G (mkK YX1_settleWithin (d + 4) sh sh Po) 82 [some (.inr (.inr 87)), some (.inl n), some (.inl more), some (.inl i), some (.inl st), some (.inl (st / 7))] [] sh c := by
        intro c more hI hD hE
        have Lc := hI.2.1.L
        have e91 : c 91 = ct 91 := hI.1 91 (by decide)
        have r89 : -1 ≤ c 89 st ∧ c 89 st ≤ 1400 := hI.2.2.2.1 false st hs.1 hs.2
        have hO : exO (c 89) (gP β mk tone false) lv st := hI.2.2.2.2.1 false st hR
        have both : exA (c 89) (gP β mk tone false) (lv + 1) st → ∀ f, exA (c (tG f)) (gP β mk tone f) (lv + 1) st := by
          intro h f
          cases f
          · exact h
          · exact hE
        have z91 := hz (st / 7) (by omega) (by omega)
        refine g_aload_n (q := 83) dX1_settleWithin_82 rfl rfl ?_
        refine g_getA (q := 86) (kI := 5) fX1_21 (by first | assumption | exact S.at _ rfl) dX1_settleWithin_83 rfl rfl (by first | assumption | exact L.at _ _ rfl | exact LK.at (by assumption) _ _ rfl | ((repeat first | rewrite [wr_na (by decide)] | rewrite [wr_nk (by decide)] | rewrite [wa_na (by decide)]); first | assumption | exact LK.at (by assumption) _ _ rfl) | exact rfl) ?_
        refine g_iload (q := 88) dX1_settleWithin_86 rfl rfl ?_
        refine g_iaload (q := 89) (by first | assumption | exact S.at _ rfl) (by omega) (by omega) (by omega) dX1_settleWithin_88 rfl ?_
        rw [e91]
        refine g_if_eq (q := 92) (tg := 131) dX1_settleWithin_89 (by decide) rfl (fun c_89 => ?_) (fun c_89 => ?_)
        · have t0 : ct 91 (st / 7) = 0 := by
            rcases z91 with h | h
            · exact h
            · rw [h] at c_89; exact absurd c_89 (by decide)
          refine at131 c more hI hD (both ?_)
          by_cases h1 : c 89 st = -1
          · exact Or.inl ⟨h1, hqu false st hR t0 (hO.no (hP false) h1)⟩
          · exact hO.keep h1
        · refine g_aload_n (q := 93) dX1_settleWithin_92 rfl rfl ?_
          refine g_getA (q := 96) (kI := 3) fX1_15 (by first | assumption | exact S.at _ rfl) dX1_settleWithin_93 rfl rfl (by first | assumption | exact L.at _ _ rfl | exact LK.at (by assumption) _ _ rfl | ((repeat first | rewrite [wr_na (by decide)] | rewrite [wr_nk (by decide)] | rewrite [wa_na (by decide)]); first | assumption | exact LK.at (by assumption) _ _ rfl) | exact rfl) ?_
          refine g_iload (q := 98) dX1_settleWithin_96 rfl rfl ?_
          refine g_iaload (q := 99) (by first | assumption | exact S.at _ rfl) (by omega) (by omega) (by omega) dX1_settleWithin_98 rfl ?_
          refine g_iconst (q := 100) dX1_settleWithin_99 rfl ?_
          refine g_icmp_ne (q := 103) (tg := 131) dX1_settleWithin_100 (by decide) rfl (fun c_100 => ?_) (fun c_100 => ?_)
          · refine at131 c more hI hD (both (hO.keep ?_))
            intro h
            rw [h] at c_100
            exact c_100 rfl
          · have h1 : c 89 st = -1 := by unfold w32 at c_100; omega
            have hno := hO.no (hP false) h1
            refine g_aload_n (q := 104) dX1_settleWithin_103 rfl rfl ?_
            refine g_iload (q := 106) dX1_settleWithin_104 rfl rfl ?_
            refine g_iload_n (q := 107) dX1_settleWithin_106 rfl rfl ?_
            refine g_callV (q := 110) lX1_93 mX1_allForce nX1_allForce rfl (c_allForce d sh c S hI.2.1 hs.1 hs.2 (by omega) (by omega) (hI.2.2.2.1 true)) (by first | assumption | exact S.at _ rfl) rfl rfl shLe.rf (rmOk.mk (by omega) (by first | exact shLe.rf | assumption)) (Nat.le_of_ble_eq_true rfl) dX1_settleWithin_107 rfl rfl (kI fun r c2 hp => ?_)
            obtain ⟨hr01, hr1, m2⟩ := hp
            have hI2 := hI.mvt m2
            have f88 : c2 88 = c 88 := m2.1 88 (by decide)
            have f89 : c2 89 = c 89 := m2.1 89 (by decide)
            have L2 := m2.2.L
            have fT : ∀ f, c2 (tG f) = c (tG f) := fun f => m2.1 _ (tG_far f)
            have key : (scG β mk st ≠ [] ∧ ∀ x ∈ scG β mk st, c 88 x ≠ -1 ∧ c 88 x < n) → gP β mk tone false (lv + 1) st := by
              rintro ⟨ha, hb⟩
              refine Or.inr ⟨ha, fun x hx => ?_⟩
              have h := hb x hx
              rw [← hn] at h
              rcases hI.2.2.2.2.1 true x (hcl st hR x hx) with h' | h'
              · exact (exA_at (hP true) (Nat.le_refl _) h').mp h
              · exact (exA_at (hP true) (by omega) h').mp h
            refine g_if_eq (q := 113) (tg := 131) dX1_settleWithin_110 (by decide) rfl (fun c_110 => ?_) (fun c_110 => ?_)
            · have hr0 : r = 0 := by unfold w32 at c_110; omega
              suffices hnp : ¬ gP β mk tone false (lv + 1) st from at131 c2 more hI2 (fun f j hj => by rw [fT f]; exact hD f j hj) (fun f => by rw [fT f]; exact both (Or.inl ⟨h1, hnp⟩) f)
              intro hg
              have hne : ¬ (scG β mk st ≠ [] ∧ ∀ x ∈ scG β mk st, c 88 x ≠ -1 ∧ c 88 x < n) := by
                intro h
                have := hr1.mpr h
                omega
              rcases hg with hg | ⟨ha, hb⟩
              · exact hno (gW_le (m := 0) (Nat.zero_le _) hg)
              · apply hne
                refine ⟨ha, fun x hx => ?_⟩
                rw [← hn]
                rcases hI.2.2.2.2.1 true x (hcl st hR x hx) with h' | h'
                · exact (exA_at (hP true) (Nat.le_refl _) h').mpr (hb x hx)
                · exact (exA_at (hP true) (by omega) h').mpr (hb x hx)
            · have hr' : r = 1 := by
                rcases hr01 with h | h
                · rw [h] at c_110; exact absurd rfl c_110
                · exact h
              obtain ⟨p1, p2, p3⟩ := hI2.put hP hlv false hR hs.1 hs.2 (show c2 89 st = -1 by rw [f89]; exact h1) (key (hr1.mp hr'))
              rw [hn] at p1 p2 p3
              refine g_aload_n (q := 114) dX1_settleWithin_113 rfl rfl ?_
              refine g_getA (q := 117) (kI := 3) fX1_15 (by first | assumption | exact S.at _ rfl) dX1_settleWithin_114 rfl rfl (by first | assumption | exact L.at _ _ rfl | exact LK.at (by assumption) _ _ rfl | ((repeat first | rewrite [wr_na (by decide)] | rewrite [wr_nk (by decide)] | rewrite [wa_na (by decide)]); first | assumption | exact LK.at (by assumption) _ _ rfl) | exact rfl) ?_
              refine g_iload (q := 119) dX1_settleWithin_117 rfl rfl ?_
              refine g_iload_n (q := 120) dX1_settleWithin_119 rfl rfl ?_
              refine g_iastore (q := 121) (by first | assumption | exact S.at _ rfl) (by omega) (by omega) (by omega) dX1_settleWithin_120 rfl ?_
              refine g_aload_n (q := 122) dX1_settleWithin_121 rfl rfl ?_
              refine g_getA (q := 125) (kI := 4) fX1_18 (by first | assumption | exact S.at _ rfl) dX1_settleWithin_122 rfl rfl (by first | assumption | exact L.at _ _ rfl | exact LK.at (by assumption) _ _ rfl | ((repeat first | rewrite [wr_na (by decide)] | rewrite [wr_nk (by decide)] | rewrite [wa_na (by decide)]); first | assumption | exact LK.at (by assumption) _ _ rfl) | exact rfl) ?_
              refine g_iload (q := 127) dX1_settleWithin_125 rfl rfl ?_
              refine g_iconst (q := 128) dX1_settleWithin_127 rfl ?_
              refine g_iastore (q := 129) (by first | assumption | exact S.at _ rfl) (by omega) (by omega) (by omega) dX1_settleWithin_128 rfl ?_
              refine g_iconst (q := 130) dX1_settleWithin_129 rfl ?_
              refine s_istore_n_6_2 (q := 131) dX1_settleWithin_130 rfl rfl rfl ?_
              refine at131 _ 1 p1 (fun f j hj => p2 f _ ⟨j, by omega, rfl⟩ (by rw [fT f]; exact hD f j hj)) (fun f => ?_)
              cases f
              · exact p3
              · refine p2 true st hR ?_
                rw [fT true]
                exact hE
      have e91 : c 91 = ct 91 := hI.1 91 (by decide)
      have r88 : -1 ≤ c 88 st ∧ c 88 st ≤ 1400 := hI.2.2.2.1 true st hs.1 hs.2
      have hO : exO (c 88) (gP β mk tone true) lv st := hI.2.2.2.2.1 true st hR
      have z91 := hz (st / 7) (by omega) (by omega)
      refine g_iload_n (q := 5) dX1_settleWithin_4 rfl rfl ?_
      refine g_aload_n (q := 6) dX1_settleWithin_5 rfl rfl ?_
      refine g_getO (q := 9) (kI := 1) fX1_32 (by first | assumption | exact S.at _ rfl) dX1_settleWithin_6 rfl rfl (by first | assumption | exact L.at _ _ rfl | exact LK.at (by assumption) _ _ rfl | ((repeat first | rewrite [wr_na (by decide)] | rewrite [wr_nk (by decide)] | rewrite [wa_na (by decide)]); first | assumption | exact LK.at (by assumption) _ _ rfl) | exact rfl) ?_
      refine g_getI (q := 12) (kI := 2) fX1_59 (by first | assumption | exact S.at _ rfl) dX1_settleWithin_9 rfl rfl ?_
      rw [e77, h2]
      refine g_icmp_ge (q := 15) (tg := 137) dX1_settleWithin_12 (by decide) rfl (fun c_12 => ?_) (fun c_12 => ?_)
      · exact absurd c_12 (by unfold w32; omega)
      · refine g_aload_n (q := 16) dX1_settleWithin_15 rfl rfl ?_
        refine g_getO (q := 19) (kI := 1) fX1_32 (by first | assumption | exact S.at _ rfl) dX1_settleWithin_16 rfl rfl (by first | assumption | exact L.at _ _ rfl | exact LK.at (by assumption) _ _ rfl | ((repeat first | rewrite [wr_na (by decide)] | rewrite [wr_nk (by decide)] | rewrite [wa_na (by decide)]); first | assumption | exact LK.at (by assumption) _ _ rfl) | exact rfl) ?_
        refine g_iload_n (q := 20) dX1_settleWithin_19 rfl rfl ?_
        refine g_callV (q := 23) lX1_62 mX10_stateAt nX10_stateAt rfl (c_stateAt (d + 3) sh c S (by rw [e77]; exact hq1) sq (by omega) (by omega) (by omega) (by rw [eq]; exact hci.1) (by rw [eq]; exact hci.2.1)) (by first | assumption | exact S.at _ rfl) rfl rfl shLe.rf (rmOk.mk (by omega) (by first | exact shLe.rf | assumption)) (Nat.le_of_ble_eq_true rfl) dX1_settleWithin_20 rfl rfl (kI fun r c2 hp => ?_)
        obtain ⟨rfl, rfl⟩ := hp
        rw [eq, show qSt (ct q i) = st from hnd]
        refine s_istore_6_4 (q := 25) dX1_settleWithin_23 rfl rfl rfl ?_
        refine g_iload (q := 27) dX1_settleWithin_25 rfl rfl ?_
        refine g_bipush (q := 29) dX1_settleWithin_27 (by decide +kernel) rfl ?_
        refine g_idiv (q := 30) dX1_settleWithin_29 (by decide) rfl ?_
        rw [ed]
        refine s_istore_6_5 (q := 32) dX1_settleWithin_30 rfl rfl rfl ?_
        refine g_aload_n (q := 33) dX1_settleWithin_32 rfl rfl ?_
        refine g_getA (q := 36) (kI := 5) fX1_21 (by first | assumption | exact S.at _ rfl) dX1_settleWithin_33 rfl rfl (by first | assumption | exact L.at _ _ rfl | exact LK.at (by assumption) _ _ rfl | ((repeat first | rewrite [wr_na (by decide)] | rewrite [wr_nk (by decide)] | rewrite [wa_na (by decide)]); first | assumption | exact LK.at (by assumption) _ _ rfl) | exact rfl) ?_
        refine g_iload (q := 38) dX1_settleWithin_36 rfl rfl ?_
        refine g_iaload (q := 39) (by first | assumption | exact S.at _ rfl) (by omega) (by omega) (by omega) dX1_settleWithin_38 rfl ?_
        rw [e91]
        refine g_if_eq (q := 42) (tg := 82) dX1_settleWithin_39 (by decide) rfl (fun c_39 => ?_) (fun c_39 => ?_)
        · have t0 : ct 91 (st / 7) = 0 := by
            rcases z91 with h | h
            · exact h
            · rw [h] at c_39; exact absurd c_39 (by decide)
          refine at82 c2 more hI hD ?_
          by_cases h1 : c2 88 st = -1
          · exact Or.inl ⟨h1, hqu true st hR t0 (hO.no (hP true) h1)⟩
          · exact hO.keep h1
        · refine g_aload_n (q := 43) dX1_settleWithin_42 rfl rfl ?_
          refine g_getA (q := 46) (kI := 2) fX1_9 (by first | assumption | exact S.at _ rfl) dX1_settleWithin_43 rfl rfl (by first | assumption | exact L.at _ _ rfl | exact LK.at (by assumption) _ _ rfl | ((repeat first | rewrite [wr_na (by decide)] | rewrite [wr_nk (by decide)] | rewrite [wa_na (by decide)]); first | assumption | exact LK.at (by assumption) _ _ rfl) | exact rfl) ?_
          refine g_iload (q := 48) dX1_settleWithin_46 rfl rfl ?_
          refine g_iaload (q := 49) (by first | assumption | exact S.at _ rfl) (by omega) (by omega) (by omega) dX1_settleWithin_48 rfl ?_
          refine g_iconst (q := 50) dX1_settleWithin_49 rfl ?_
          refine g_icmp_ne (q := 53) (tg := 82) dX1_settleWithin_50 (by decide) rfl (fun c_50 => ?_) (fun c_50 => ?_)
          · refine at82 c2 more hI hD (hO.keep ?_)
            intro h
            rw [h] at c_50
            exact c_50 rfl
          · have h1 : c2 88 st = -1 := by unfold w32 at c_50; omega
            have hno := hO.no (hP true) h1
            refine g_aload_n (q := 54) dX1_settleWithin_53 rfl rfl ?_
            refine g_iload (q := 56) dX1_settleWithin_54 rfl rfl ?_
            refine g_iload_n (q := 57) dX1_settleWithin_56 rfl rfl ?_
            refine g_callV (q := 60) lX1_89 mX1_firstForcing nX1_firstForcing rfl (c_firstForcing d sh c2 S hI.2.1 hs.1 hs.2 (by omega) (by omega) (hI.2.2.2.1 false)) (by first | assumption | exact S.at _ rfl) rfl rfl shLe.rf (rmOk.mk (by omega) (by first | exact shLe.rf | assumption)) (Nat.le_of_ble_eq_true rfl) dX1_settleWithin_57 rfl rfl (kI fun r c3 hp => ?_)
            obtain ⟨m3, hor⟩ := hp
            have hI3 := hI.mvt m3
            have L3 := m3.2.L
            have f88 : c3 88 = c2 88 := m3.1 88 (by decide)
            have fT : ∀ f, c3 (tG f) = c2 (tG f) := fun f => m3.1 _ (tG_far f)
            have hr : -1 ≤ r ∧ r ≤ 100 := by
              rcases hor with ⟨pre, k, post, hb, rfl, -⟩ | ⟨rfl, -⟩
              · have := (brL_mem (Z := msN β mk st) (k := 48) (i := k)).mp (by rw [hb]; simp)
                unfold mnt
                omega
              · omega
            refine g_iconst (q := 61) dX1_settleWithin_60 rfl ?_
            refine g_icmp_eq (q := 64) (tg := 82) dX1_settleWithin_61 (by decide) rfl (fun c_61 => ?_) (fun c_61 => ?_)
            · have hr0 : r = -1 := by unfold w32 at c_61; omega
              suffices hnp : ¬ gP β mk tone true (lv + 1) st from at82 c3 more hI3 (fun f j hj => by rw [fT f]; exact hD f j hj) (by rw [fT true]; exact Or.inl ⟨h1, hnp⟩)
              rcases hor with ⟨pre, k, post, hb, rfl, -⟩ | ⟨-, hno2⟩
              · exfalso
                unfold mnt at hr0
                omega
              · rintro (hg | ⟨x, hx, hg⟩)
                · exact hno (gW_le (m := 0) (Nat.zero_le _) hg)
                · obtain ⟨k, hk, rfl⟩ := List.mem_map.mp hx
                  apply hno2 k hk
                  rw [← hn]
                  rcases hI.2.2.2.2.1 false _ (hcl st hR _ hx) with h' | h'
                  · exact (exA_at (hP false) (Nat.le_refl _) h').mpr hg
                  · exact (exA_at (hP false) (by omega) h').mpr hg
            · have hyes : gP β mk tone true (lv + 1) st := by
                rcases hor with ⟨pre, k, post, hb, -, hk, -⟩ | ⟨hr0, -⟩
                · have hx : nxB β st (k / 8 : Nat) (k % 8 : Nat) ∈ scG β mk st := List.mem_map.mpr ⟨k, by rw [hb]; simp, rfl⟩
                  refine Or.inr ⟨_, hx, ?_⟩
                  rw [← hn] at hk
                  rcases hI.2.2.2.2.1 false _ (hcl st hR _ hx) with h' | h'
                  · exact (exA_at (hP false) (Nat.le_refl _) h').mp hk
                  · exact (exA_at (hP false) (by omega) h').mp hk
                · rw [hr0] at c_61
                  exact absurd rfl c_61
              obtain ⟨p1, p2, p3⟩ := hI3.put hP hlv true hR hs.1 hs.2 (show c3 88 st = -1 by rw [f88]; exact h1) hyes
              rw [hn] at p1 p2 p3
              refine g_aload_n (q := 65) dX1_settleWithin_64 rfl rfl ?_
              refine g_getA (q := 68) (kI := 2) fX1_9 (by first | assumption | exact S.at _ rfl) dX1_settleWithin_65 rfl rfl (by first | assumption | exact L.at _ _ rfl | exact LK.at (by assumption) _ _ rfl | ((repeat first | rewrite [wr_na (by decide)] | rewrite [wr_nk (by decide)] | rewrite [wa_na (by decide)]); first | assumption | exact LK.at (by assumption) _ _ rfl) | exact rfl) ?_
              refine g_iload (q := 70) dX1_settleWithin_68 rfl rfl ?_
              refine g_iload_n (q := 71) dX1_settleWithin_70 rfl rfl ?_
              refine g_iastore (q := 72) (by first | assumption | exact S.at _ rfl) (by omega) (by omega) (by omega) dX1_settleWithin_71 rfl ?_
              refine g_aload_n (q := 73) dX1_settleWithin_72 rfl rfl ?_
              refine g_getA (q := 76) (kI := 4) fX1_18 (by first | assumption | exact S.at _ rfl) dX1_settleWithin_73 rfl rfl (by first | assumption | exact L.at _ _ rfl | exact LK.at (by assumption) _ _ rfl | ((repeat first | rewrite [wr_na (by decide)] | rewrite [wr_nk (by decide)] | rewrite [wa_na (by decide)]); first | assumption | exact LK.at (by assumption) _ _ rfl) | exact rfl) ?_
              refine g_iload (q := 78) dX1_settleWithin_76 rfl rfl ?_
              refine g_iconst (q := 79) dX1_settleWithin_78 rfl ?_
              refine g_iastore (q := 80) (by first | assumption | exact S.at _ rfl) (by omega) (by omega) (by omega) dX1_settleWithin_79 rfl ?_
              refine g_iconst (q := 81) dX1_settleWithin_80 rfl ?_
              refine s_istore_n_6_2 (q := 82) dX1_settleWithin_81 rfl rfl rfl ?_
              exact at82 _ 1 p1 (fun f j hj => p2 f _ ⟨j, by omega, rfl⟩ (by rw [fT f]; exact hD f j hj)) p3
  refine Mt.of rfl (Nat.le_of_ble_eq_true rfl) ?_
  show G _ 0 [some (.inr (.inr 87)), some (.inl n), none, none, none, none] [] sh ct
  refine g_iconst (q := 1) dX1_settleWithin_0 rfl ?_
  refine s_istore_n_6_2 (q := 2) dX1_settleWithin_1 rfl rfl rfl ?_
  refine g_iconst (q := 3) dX1_settleWithin_2 rfl ?_
  refine s_istore_n_6_3 (q := 4) dX1_settleWithin_3 rfl rfl rfl ?_
  exact loop cnt 0 0 ct none none (by omega) I (fun f j hj => by omega) rfl
end
