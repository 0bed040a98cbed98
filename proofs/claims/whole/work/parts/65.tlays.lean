/-! the search of the reference, laid out -/
section
variable (d : Nat) (sh : mbSh) (ct : mbCt) {β : Bk} {mk : Int → Int} {st qu un mo : Int}
theorem lsb {l2 : List (Option gV)} {l : List (Option gV)} (h : l2 = l) : lsSub l l2 := by rw [h]; exact lsSub_rf l
theorem or01 {a b : Int} (ha : a = 0 ∨ a = 1) (hb : b = 0 ∨ b = 1) : orI a b = if a = 1 ∨ b = 1 then 1 else 0 := by
  rcases ha with rfl | rfl <;> rcases hb with rfl | rfl <;> decide +kernel
set_option maxRecDepth 4000 in
theorem tw_laysStill {tone f : Int} {U M : Nat} (S : SH sh) (MM : MD ct β mk st) (D : LD ct β mk qu un mo) (hU : useOk U qu un) (ho : 0 ≤ mo ∧ mo ≤ 9) (hM : fulM β f M) (t0 : -1 ≤ tone) (t1 : tone ≤ 10) : Mt YX12_laysStill (d + 2) [.inr (.inr 92), .inl tone, .inl f] sh sh ct (pN fun c => StF c β mk U mo tone M ∧ eqBut [101] ct c) := by
  have hB := MM.B
  have L := MM.L
  have hmem := MM.mem
  have hp := pw6 hM.1
  have hf : f = 0 ∨ f = 1 := by rcases hM.2 with h | h; exact Or.inl h.1; exact Or.inr h.1
  have s100 : shA sh 100 = some (20, 70000) := S.at _ rfl
  have s101 : shA sh 101 = some (20, 44800) := S.at _ rfl
  generalize hP : (pN fun c => StF c β mk U mo tone M ∧ eqBut [101] ct c) = Po
  -- the rounds
  have rounds : ∀ (k : Nat) (lv : Nat) (c : mbCt) (o6 o7 : Option gV), lv + k = 44801 → eqBut [101] ct c → StI c β mk U mo tone M lv → G (mkK YX12_laysStill (d + 2) sh sh Po) 91 [some (.inr (.inr 92)), some (.inl tone), some (.inl f), some (.inl (2 ^ M)), some (.inl lv), some (.inl 1), o6, o7] [] sh c := by
    intro k
    induction k with
    | zero =>
      intro lv c o6 o7 hk e I
      have := I.lt
      omega
    | succ k ih =>
      intro lv c o6 o7 hk e I
      have hlt := I.lt
      have hrg := I.rg hM.1
      have L1 : LK c := L.eb e rfl
      have ex : ∀ (c3 : mbCt) (more : Int), eqBut [101] ct c3 → StR c β mk U mo tone M lv 44800 more c3 → ∀ o6 o7, G (mkK YX12_laysStill (d + 2) sh sh Po) 177 [some (.inr (.inr 92)), some (.inl tone), some (.inl f), some (.inl (2 ^ M)), some (.inl ((lv : Int) + 1)), some (.inl more), o6, o7] [] sh c3 := by
        intro c3 more e3 R o6 o7
        refine g_iconst (q := 178) dX12_laysStill_177 rfl ?_
        refine s_istore_8_6 (q := 180) dX12_laysStill_178 rfl rfl rfl ?_
        refine g_for (fun j => [some (.inr (.inr 92)), some (.inl tone), some (.inl f), some (.inl (2 ^ M)), some (.inl ((lv : Int) + 1)), some (.inl more), some (.inl j), none]) (fun j c4 => 0 ≤ j ∧ eqBut [101] ct c4 ∧ (∀ i, 0 ≤ i → i < j → c4 101 i = if c3 101 i = -((lv : Int) + 1) then (lv : Int) + 1 else c3 101 i) ∧ ∀ i, j ≤ i → c4 101 i = c3 101 i) 44800 ?_ ?_ (i := 0) (by omega) ⟨by omega, e3, fun i _ _ => by omega, fun i _ => rfl⟩ (by simp [lsSub])
        · rintro j c4 hj ⟨j0, e4, i1, i2⟩ kk
          have L4 : LK c4 := L.eb e4 rfl
          have hv := i2 j (Int.le_refl j)
          have hr3 : -50000 ≤ c3 101 j ∧ c3 101 j ≤ 268435456 := by
            have := hrg j j0 hj
            rcases R.2.2.2.1 j j0 hj with h | h <;> omega
          have nx : ∀ c5 : mbCt, eqBut [101] ct c5 → (c5 101 j = if c3 101 j = -((lv : Int) + 1) then (lv : Int) + 1 else c3 101 j) → (∀ i, i ≠ j → c5 101 i = c4 101 i) → G (mkK YX12_laysStill (d + 2) sh sh Po) 209 [some (.inr (.inr 92)), some (.inl tone), some (.inl f), some (.inl (2 ^ M)), some (.inl ((lv : Int) + 1)), some (.inl more), some (.inl j), none] [] sh c5 := by
            intro c5 e5 h1 h2
            refine s_iinc_8_6 (q := 212) dX12_laysStill_209 rfl rfl rfl ?_
            refine g_goto (q := 180) dX12_laysStill_212 (by decide) ?_
            refine kk _ _ (by simp [lsSub]) ⟨by omega, e5, fun i a b => ?_, fun i a => ?_⟩
            · by_cases hi : i = j
              · subst hi
                exact h1
              · rw [h2 i hi]
                exact i1 i a (by omega)
            · rw [h2 i (by omega)]
              exact i2 i (by omega)
          refine g_iload (q := 182) dX12_laysStill_180 rfl rfl ?_
          refine g_ldc (q := 184) dX12_laysStill_182 kX12_43 rfl ?_
          refine g_icmp_ge (q := 187) (tg := 215) dX12_laysStill_184 (by decide) rfl (fun c_184 => ?_) (fun c_184 => ?_)
          · exact absurd c_184 (by unfold w32; omega)
          · refine g_aload_n (q := 188) dX12_laysStill_187 rfl rfl ?_
            refine g_getA (q := 191) (kI := 22) fX12_44 (by first | assumption | exact S.at _ rfl) dX12_laysStill_188 rfl rfl (by first | assumption | exact L.at _ _ rfl | exact LK.at (by assumption) _ _ rfl | ((repeat first | rewrite [wr_na (by decide)] | rewrite [wr_nk (by decide)] | rewrite [wa_na (by decide)]); first | assumption | exact LK.at (by assumption) _ _ rfl) | exact rfl) ?_
            refine g_iload (q := 193) dX12_laysStill_191 rfl rfl ?_
            refine g_iaload (q := 194) (by first | assumption | exact S.at _ rfl) (by omega) (by omega) (by omega) dX12_laysStill_193 rfl ?_
            refine g_iload (q := 196) dX12_laysStill_194 rfl rfl ?_
            refine g_ineg (q := 197) dX12_laysStill_196 rfl ?_
            refine g_icmp_ne (q := 200) (tg := 209) dX12_laysStill_197 (by decide) rfl (fun c_197 => ?_) (fun c_197 => ?_)
            · rw [hv] at c_197
              refine nx c4 e4 ?_ (fun _ _ => rfl)
              rw [hv, if_neg (fun z => c_197 (by rw [z]))]
            · rw [hv] at c_197
              refine g_aload_n (q := 201) dX12_laysStill_200 rfl rfl ?_
              refine g_getA (q := 204) (kI := 22) fX12_44 (by first | assumption | exact S.at _ rfl) dX12_laysStill_201 rfl rfl (by first | assumption | exact L.at _ _ rfl | exact LK.at (by assumption) _ _ rfl | ((repeat first | rewrite [wr_na (by decide)] | rewrite [wr_nk (by decide)] | rewrite [wa_na (by decide)]); first | assumption | exact LK.at (by assumption) _ _ rfl) | exact rfl) ?_
              refine g_iload (q := 206) dX12_laysStill_204 rfl rfl ?_
              refine g_iload (q := 208) dX12_laysStill_206 rfl rfl ?_
              refine g_iastore (q := 209) (by first | assumption | exact S.at _ rfl) (by omega) (by omega) (by omega) dX12_laysStill_208 rfl ?_
              refine nx _ (e4.wr (by decide)) ?_ (fun i hi => wr_nk hi)
              rw [w32_id (by omega) (by omega), w32_id (by omega) (by omega)] at c_197
              rw [wr_eq, if_pos c_197]
        · rintro c4 ⟨-, e4, i1, i2⟩
          refine g_iload (q := 182) dX12_laysStill_180 rfl rfl ?_
          refine g_ldc (q := 184) dX12_laysStill_182 kX12_43 rfl ?_
          refine g_icmp_ge (q := 187) (tg := 215) dX12_laysStill_184 (by decide) rfl (fun c_184 => ?_) (fun c_184 => ?_)
          · refine g_goto (q := 91) dX12_laysStill_215 (by decide) ?_
            rcases R.all hM.1 I i1 with ⟨rfl, I4, hs⟩ | ⟨rfl, I4⟩
            · refine g_iload (q := 93) dX12_laysStill_91 rfl rfl ?_
              refine g_if_eq (q := 96) (tg := 218) dX12_laysStill_93 (by decide) rfl (fun c_93 => ?_) (fun c_93 => ?_)
              · refine g_return dX12_laysStill_218 rfl ?_
                rw [← hP]
                refine ⟨rfl, ?_, e4⟩
                intro x s x0 x1 s0 s1
                have hl4 := I4.lt
                have st := Rn_stop hU ho.2 hB hM hs
                rcases I4.2.1 x s x0 x1 s0 s1 with ⟨a, b⟩ | ⟨i, a, b, e, g⟩
                · refine Or.inl ⟨a, fun m hm => ?_⟩
                  obtain ⟨m2, h1, h2⟩ := st m x s x0 x1 s0 s1 hm
                  exact b m2 h1 h2
                · exact Or.inr ⟨i, by omega, b, e, g⟩
              · exact absurd rfl c_93
            · exact ih (lv + 1) c4 _ _ (by omega) e4 I4
          · exact absurd c_184 (by decide)
      refine g_iload (q := 93) dX12_laysStill_91 rfl rfl ?_
      refine g_if_eq (q := 96) (tg := 218) dX12_laysStill_93 (by decide) rfl (fun c_93 => ?_) (fun c_93 => ?_)
      · exact absurd c_93 (by decide)
      · refine g_iconst (q := 97) dX12_laysStill_96 rfl ?_
        refine s_istore_8_5 (q := 99) dX12_laysStill_97 rfl rfl rfl ?_
        refine s_iinc_8_4 (q := 102) dX12_laysStill_99 rfl rfl rfl ?_
        refine g_iconst (q := 103) dX12_laysStill_102 rfl ?_
        refine s_istore_8_6 (q := 105) dX12_laysStill_103 rfl rfl rfl ?_
        refine g_forA (α := Int) (fun x more => [some (.inr (.inr 92)), some (.inl tone), some (.inl f), some (.inl (2 ^ M)), some (.inl ((lv : Int) + 1)), some (.inl more), some (.inl x), none]) (fun x more c2 => 0 ≤ x ∧ eqBut [101] ct c2 ∧ StR c β mk U mo tone M lv (64 * x) more c2) 700 ?_ ?_ (i := 0) (a := 0) (by omega) ⟨by omega, e, I.1, fun x s _ _ _ _ _ => by omega, fun _ _ _ => rfl, fun _ _ _ => Or.inl rfl, Or.inl ⟨rfl, fun _ _ _ => rfl⟩⟩ (by simp [lsSub])
        · rintro x more c2 hx ⟨x0, e2, R⟩ kk
          refine g_iload (q := 107) dX12_laysStill_105 rfl rfl ?_
          refine g_sipush (q := 110) dX12_laysStill_107 (by decide +kernel) rfl ?_
          refine g_icmp_ge (q := 113) (tg := 177) dX12_laysStill_110 (by decide) rfl (fun c_110 => ?_) (fun c_110 => ?_)
          · exact absurd c_110 (by unfold w32; omega)
          · refine g_iconst (q := 114) dX12_laysStill_113 rfl ?_
            refine s_istore_8_7 (q := 116) dX12_laysStill_114 rfl rfl rfl ?_
            refine g_forA (α := Int) (fun s more => [some (.inr (.inr 92)), some (.inl tone), some (.inl f), some (.inl (2 ^ M)), some (.inl ((lv : Int) + 1)), some (.inl more), some (.inl x), some (.inl s)]) (fun s more c2 => 0 ≤ s ∧ eqBut [101] ct c2 ∧ StR c β mk U mo tone M lv (64 * x + s) more c2) (2 ^ M) ?_ ?_ (i := 0) (a := more) (by omega) ⟨by omega, e2, by rw [Int.add_zero]; exact R⟩ (by simp [lsSub])
            · rintro s more c3 hs ⟨s0, e3, R3⟩ k3
              have L3 : LK c3 := L.eb e3 rfl
              have D3 : LD c3 β mk qu un mo := D.eq (e3 100 (by decide)) (e3 103 (by decide))
              have hv := R3.2.2.1 (64 * x + s) (Int.le_refl _) (by omega)
              have hI := I.2.1 x s x0 hx s0 hs
              have hr3 : ∀ j, 0 ≤ j → j < 44800 → -50000 ≤ c3 101 j ∧ c3 101 j ≤ 268435456 := by
                intro j j0 j1
                have := hrg j j0 j1
                rcases R3.2.2.2.1 j j0 j1 with h | h <;> omega
              have hrv := hrg (64 * x + s) (by omega) (by omega)
              have mm : more = 0 ∨ more = 1 := by rcases R3.2.2.2.2 with h | h; exact Or.inl h.1; exact Or.inr h.1
              -- nothing is found here
              have no : exS (c 101 (64 * x + s)) (RnR β mk U mo tone M x s) (lv + 1) → G (mkK YX12_laysStill (d + 2) sh sh Po) 162 [some (.inr (.inr 92)), some (.inl tone), some (.inl f), some (.inl (2 ^ M)), some (.inl ((lv : Int) + 1)), some (.inl more), some (.inl x), some (.inl s)] [.inl 0, .inl more] sh c3 := by
                intro hx2
                refine g_ior (q := 163) dX12_laysStill_162 rfl ?_
                rw [show orI more 0 = more by rcases mm with rfl | rfl <;> decide +kernel]
                refine s_istore_8_5 (q := 165) dX12_laysStill_163 rfl rfl rfl ?_
                refine s_iinc_8_7 (q := 168) dX12_laysStill_165 rfl rfl rfl ?_
                refine g_goto (q := 116) dX12_laysStill_168 (by decide) ?_
                refine k3 more _ _ (by simp [lsSub]) ⟨by omega, e3, R3.1, fun x' s' a0 a1 b0 b1 hlt2 => ?_, fun j a b => R3.2.2.1 j (by omega) b, R3.2.2.2.1, R3.2.2.2.2⟩
                by_cases he : 64 * x' + s' = 64 * x + s
                · have h1 : x' = x := by omega
                  have h2 : s' = s := by omega
                  subst h1 h2
                  rw [hv]
                  exact Or.inl ⟨by omega, hx2⟩
                · exact R3.2.1 x' s' a0 a1 b0 b1 (by omega)
              refine g_iload (q := 118) dX12_laysStill_116 rfl rfl ?_
              refine g_iload_n (q := 119) dX12_laysStill_118 rfl rfl ?_
              refine g_icmp_ge (q := 122) (tg := 171) dX12_laysStill_119 (by decide) rfl (fun c_119 => ?_) (fun c_119 => ?_)
              · exact absurd c_119 (by rw [w32_id (by omega) (by omega), w32_id (by omega) (by omega)]; omega)
              · refine g_iload (q := 124) dX12_laysStill_122 rfl rfl ?_
                refine g_aload_n (q := 125) dX12_laysStill_124 rfl rfl ?_
                refine g_getA (q := 128) (kI := 22) fX12_44 (by first | assumption | exact S.at _ rfl) dX12_laysStill_125 rfl rfl (by first | assumption | exact L.at _ _ rfl | exact LK.at (by assumption) _ _ rfl | ((repeat first | rewrite [wr_na (by decide)] | rewrite [wr_nk (by decide)] | rewrite [wa_na (by decide)]); first | assumption | exact LK.at (by assumption) _ _ rfl) | exact rfl) ?_
                refine g_bipush (q := 130) dX12_laysStill_128 (by decide +kernel) rfl ?_
                refine g_iload (q := 132) dX12_laysStill_130 rfl rfl ?_
                refine g_imul (q := 133) dX12_laysStill_132 rfl ?_
                refine g_iload (q := 135) dX12_laysStill_133 rfl rfl ?_
                refine g_iadd (q := 136) dX12_laysStill_135 rfl ?_
                refine g_iaload (q := 137) (by first | assumption | exact S.at _ rfl) (by omega) (by omega) (by omega) dX12_laysStill_136 rfl ?_
                refine g_ldcw (q := 140) dX12_laysStill_137 kX12_334 rfl ?_
                refine g_icmp_ne (q := 143) (tg := 161) dX12_laysStill_140 (by decide) rfl (fun c_140 => ?_) (fun c_140 => ?_)
                · rw [hv] at c_140
                  refine g_iconst (q := 162) dX12_laysStill_161 rfl ?_
                  exact no (hI.up0 (fun z => c_140 (by rw [z])))
                · rw [hv] at c_140
                  have hne : c 101 (64 * x + s) = 268435456 := by unfold w32 at c_140; omega
                  have hno := hI.no hne (by omega)
                  refine g_aload_n (q := 144) dX12_laysStill_143 rfl rfl ?_
                  refine g_iload (q := 146) dX12_laysStill_144 rfl rfl ?_
                  refine g_iload (q := 148) dX12_laysStill_146 rfl rfl ?_
                  refine g_iload (q := 150) dX12_laysStill_148 rfl rfl ?_
                  refine g_iload_n (q := 151) dX12_laysStill_150 rfl rfl ?_
                  refine g_callV (q := 154) lX12_339 mX12_laysOne nX12_laysOne rfl (tw_laysOne d sh c3 (lv := lv) S L3 D3 hB x0 hx s0 (by omega) hf (by omega) hr3) (by first | assumption | exact S.at _ rfl) rfl rfl shLe.rf (rmOk.mk (by omega) (by first | exact shLe.rf | assumption)) (Nat.le_of_ble_eq_true rfl) dX12_laysStill_151 rfl rfl (kI fun r c4 hp => ?_)
                  rcases hp with ⟨rfl, ⟨v, v0, v1, hl, hst⟩, rfl⟩ | ⟨rfl, hnv, rfl⟩
                  · have hm := hl.1.1
                    have hnx := nxB_in (β := β) (st := x) (m := v / 10) (s := v % 10) (by omega) (by omega)
                    have hsp := sp_fm hM s0 hs (m := v / 10) (by omega) hm
                    have hy : RnR β mk U mo tone M (nxB β x (v / 10) (v % 10)) (spI f s (v / 10)) lv := by
                      have h1 := I.2.1 _ _ hnx.1 hnx.2 hsp.2.1 hsp.2.2
                      have h2 : c 101 (64 * nxB β x (v / 10) (v % 10) + spI f s (v / 10)) = lv := by
                        rcases R3.2.2.2.1 (64 * nxB β x (v / 10) (v % 10) + spI f s (v / 10)) (by omega) (by omega) with h | h <;> omega
                      rw [h2] at h1
                      rcases h1 with ⟨a, -⟩ | ⟨i, a, b, e, -⟩
                      · omega
                      · have : i = lv := by omega
                        subst this
                        exact e
                    have hR : RnR β mk U mo tone M x s (lv + 1) := (RnR_s hU ho.2 hB hM s0 hs).mpr ⟨v, v0, v1, hl, hy⟩
                    refine g_if_eq (q := 157) (tg := 161) dX12_laysStill_154 (by decide) rfl (fun c_154 => ?_) (fun c_154 => ?_)
                    · exact absurd c_154 (by decide)
                    · refine g_iconst (q := 158) dX12_laysStill_157 rfl ?_
                      refine g_goto (q := 162) dX12_laysStill_158 (by decide) ?_
                      refine g_ior (q := 163) dX12_laysStill_162 rfl ?_
                      rw [show orI more 1 = 1 by rcases mm with rfl | rfl <;> decide +kernel]
                      refine s_istore_8_5 (q := 165) dX12_laysStill_163 rfl rfl rfl ?_
                      refine s_iinc_8_7 (q := 168) dX12_laysStill_165 rfl rfl rfl ?_
                      refine g_goto (q := 116) dX12_laysStill_168 (by decide) ?_
                      refine k3 1 _ _ (by simp [lsSub]) ⟨by omega, e3.wr (by decide), fun j j0 j1 j2 => ?_, fun x' s' a0 a1 b0 b1 hlt2 => ?_, fun j a b => ?_, fun j a b => ?_, Or.inr ⟨rfl, 64 * x + s, ⟨by omega, by omega⟩, wr_eq⟩⟩
                      · rw [wr_nk (by omega)]
                        exact R3.1 j j0 j1 j2
                      · by_cases he : 64 * x' + s' = 64 * x + s
                        · have h1 : x' = x := by omega
                          have h2 : s' = s := by omega
                          subst h1 h2
                          rw [wr_eq]
                          exact Or.inr ⟨rfl, hR, hno⟩
                        · rw [wr_nk he]
                          exact R3.2.1 x' s' a0 a1 b0 b1 (by omega)
                      · rw [wr_nk (by omega)]
                        exact R3.2.2.1 j (by omega) b
                      · by_cases he : j = 64 * x + s
                        · subst he
                          rw [wr_eq]
                          exact Or.inr ⟨hne, rfl⟩
                        · rw [wr_nk he]
                          exact R3.2.2.2.1 j a b
                  · refine g_if_eq (q := 157) (tg := 161) dX12_laysStill_154 (by decide) rfl (fun c_154 => ?_) (fun c_154 => ?_)
                    · refine g_iconst (q := 162) dX12_laysStill_161 rfl ?_
                      refine no (Or.inl ⟨hne, fun m hm hR => ?_⟩)
                      by_cases hml : m ≤ lv
                      · exact hno m hml hR
                      · have : m = lv + 1 := by omega
                        subst this
                        obtain ⟨v, v0, v1, hl, hy⟩ := (RnR_s hU ho.2 hB hM s0 hs).mp hR
                        have hm := hl.1.1
                        have hnx := nxB_in (β := β) (st := x) (m := v / 10) (s := v % 10) (by omega) (by omega)
                        have hsp := sp_fm hM s0 hs (m := v / 10) (by omega) hm
                        have hne2 := hnv v v0 v1 hl
                        have h1 := I.2.1 _ _ hnx.1 hnx.2 hsp.2.1 hsp.2.2
                        have hor := R3.2.2.2.1 (64 * nxB β x (v / 10) (v % 10) + spI f s (v / 10)) (by omega) (by omega)
                        rcases h1 with ⟨a, b⟩ | ⟨i, a, b, e, g⟩
                        · exact b lv (Nat.le_refl _) hy
                        · by_cases hil : i = lv
                          · subst hil
                            rcases hor with h | h <;> omega
                          · exact hno (i + 1) (by omega) ((RnR_s hU ho.2 hB hM s0 hs).mpr ⟨v, v0, v1, hl, e⟩)
                    · exact absurd rfl c_154
            · rintro more c3 ⟨-, e3, R3⟩
              refine g_iload (q := 118) dX12_laysStill_116 rfl rfl ?_
              refine g_iload_n (q := 119) dX12_laysStill_118 rfl rfl ?_
              refine g_icmp_ge (q := 122) (tg := 171) dX12_laysStill_119 (by decide) rfl (fun c_119 => ?_) (fun c_119 => ?_)
              · refine s_iinc_8_6 (q := 174) dX12_laysStill_171 rfl rfl rfl ?_
                refine g_goto (q := 105) dX12_laysStill_174 (by decide) ?_
                refine kk more _ _ (by simp [lsSub]) ⟨by omega, e3, R3.1, fun x' s' a0 a1 b0 b1 hlt2 => ?_, fun j a b => R3.2.2.1 j (by omega) b, R3.2.2.2.1, R3.2.2.2.2⟩
                exact R3.2.1 x' s' a0 a1 b0 b1 (by omega)
              · exact absurd c_119 (Int.lt_irrefl _)
        · rintro more c2 ⟨-, e2, R⟩
          refine g_iload (q := 107) dX12_laysStill_105 rfl rfl ?_
          refine g_sipush (q := 110) dX12_laysStill_107 (by decide +kernel) rfl ?_
          refine g_icmp_ge (q := 113) (tg := 177) dX12_laysStill_110 (by decide) rfl (fun c_110 => ?_) (fun c_110 => ?_)
          · exact ex c2 more e2 R _ _
          · exact absurd c_110 (by decide)
  -- the ends
  have start : ∀ o4 o5 : Option gV, G (mkK YX12_laysStill (d + 2) sh sh Po) 17 [some (.inr (.inr 92)), some (.inl tone), some (.inl f), some (.inl (2 ^ M)), o4, o5, none, none] [] sh ct := by
    intro o4 o5
    refine g_iconst (q := 18) dX12_laysStill_17 rfl ?_
    refine s_istore_8_4 (q := 20) dX12_laysStill_18 rfl rfl rfl ?_
    refine g_for (fun j => [some (.inr (.inr 92)), some (.inl tone), some (.inl f), some (.inl (2 ^ M)), some (.inl j), none, none, none]) (fun j c => 0 ≤ j ∧ eqBut [101] ct c ∧ ∀ i, 0 ≤ i → i < j → c 101 i = 268435456) 44800 ?_ ?_ (i := 0) (by omega) ⟨by omega, eqBut.rf, fun i _ _ => by omega⟩ (by simp [lsSub])
    · rintro j c hj ⟨j0, e, i1⟩ kk
      have L1 : LK c := L.eb e rfl
      refine g_iload (q := 22) dX12_laysStill_20 rfl rfl ?_
      refine g_ldc (q := 24) dX12_laysStill_22 kX12_43 rfl ?_
      refine g_icmp_ge (q := 27) (tg := 43) dX12_laysStill_24 (by decide) rfl (fun c_24 => ?_) (fun c_24 => ?_)
      · exact absurd c_24 (by unfold w32; omega)
      · refine g_aload_n (q := 28) dX12_laysStill_27 rfl rfl ?_
        refine g_getA (q := 31) (kI := 22) fX12_44 (by first | assumption | exact S.at _ rfl) dX12_laysStill_28 rfl rfl (by first | assumption | exact L.at _ _ rfl | exact LK.at (by assumption) _ _ rfl | ((repeat first | rewrite [wr_na (by decide)] | rewrite [wr_nk (by decide)] | rewrite [wa_na (by decide)]); first | assumption | exact LK.at (by assumption) _ _ rfl) | exact rfl) ?_
        refine g_iload (q := 33) dX12_laysStill_31 rfl rfl ?_
        refine g_ldcw (q := 36) dX12_laysStill_33 kX12_334 rfl ?_
        refine g_iastore (q := 37) (by first | assumption | exact S.at _ rfl) (by omega) (by omega) (by omega) dX12_laysStill_36 rfl ?_
        refine s_iinc_8_4 (q := 40) dX12_laysStill_37 rfl rfl rfl ?_
        refine g_goto (q := 20) dX12_laysStill_40 (by decide) ?_
        refine kk _ _ (by simp [lsSub]) ⟨by omega, e.wr (by decide), fun i a b => ?_⟩
        by_cases hi : i = j
        · subst hi
          exact wr_eq
        · rw [wr_nk hi]
          exact i1 i a (by omega)
    · rintro c ⟨-, e, i1⟩
      refine g_iload (q := 22) dX12_laysStill_20 rfl rfl ?_
      refine g_ldc (q := 24) dX12_laysStill_22 kX12_43 rfl ?_
      refine g_icmp_ge (q := 27) (tg := 43) dX12_laysStill_24 (by decide) rfl (fun c_24 => ?_) (fun c_24 => ?_)
      · refine g_iconst (q := 44) dX12_laysStill_43 rfl ?_
        refine s_istore_8_4 (q := 46) dX12_laysStill_44 rfl rfl rfl ?_
        refine g_iconst (q := 47) dX12_laysStill_46 rfl ?_
        refine s_istore_8_5 (q := 49) dX12_laysStill_47 rfl rfl rfl ?_
        refine g_for (fun x => [some (.inr (.inr 92)), some (.inl tone), some (.inl f), some (.inl (2 ^ M)), some (.inl 0), some (.inl x), none, none]) (fun x c => 0 ≤ x ∧ eqBut [101] ct c ∧ ∀ i, 0 ≤ i → i < 44800 → c 101 i = if i < 64 * x ∧ i % 64 = 2 ^ M - 1 ∧ enB β (i / 64) tone = true then 0 else 268435456) 700 ?_ ?_ (i := 0) (by omega) ⟨by omega, e, fun i a b => by rw [if_neg (by omega)]; exact i1 i a b⟩ (by simp [lsSub])
        · rintro x c hx ⟨x0, e, i1⟩ kk
          have L1 : LK c := L.eb e rfl
          have D1 : LD c β mk qu un mo := D.eq (e 100 (by decide)) (e 103 (by decide))
          refine g_iload (q := 51) dX12_laysStill_49 rfl rfl ?_
          refine g_sipush (q := 54) dX12_laysStill_51 (by decide +kernel) rfl ?_
          refine g_icmp_ge (q := 57) (tg := 88) dX12_laysStill_54 (by decide) rfl (fun c_54 => ?_) (fun c_54 => ?_)
          · exact absurd c_54 (by unfold w32; omega)
          · refine g_aload_n (q := 58) dX12_laysStill_57 rfl rfl ?_
            refine g_iload (q := 60) dX12_laysStill_58 rfl rfl ?_
            refine g_iload_n (q := 61) dX12_laysStill_60 rfl rfl ?_
            refine g_callV (q := 64) lX12_335 mX12_isEnd nX12_isEnd rfl (tw_isEnd d sh _ S L1 D1 x0 hx t0 t1) (by first | assumption | exact S.at _ rfl) rfl rfl shLe.rf (rmOk.mk (by omega) (by first | exact shLe.rf | assumption)) (Nat.le_of_ble_eq_true rfl) dX12_laysStill_61 rfl rfl (kI fun r_ c_ hp => ?_)
            obtain ⟨hr, hq⟩ := hp
            replace hr := hr.symm
            replace hq := hq.symm
            subst hr hq
            refine g_if_eq (q := 67) (tg := 82) dX12_laysStill_64 (by decide) rfl (fun c_64 => ?_) (fun c_64 => ?_)
            · have hne := wb0.mp c_64
              refine s_iinc_8_5 (q := 85) dX12_laysStill_82 rfl rfl rfl ?_
              refine g_goto (q := 49) dX12_laysStill_85 (by decide) ?_
              refine kk _ _ (by simp [lsSub]) ⟨by omega, e, fun i a b => ?_⟩
              rw [i1 i a b]
              by_cases hi : i / 64 = x
              · rw [if_neg (by omega), if_neg (fun z => hne (by rw [← hi]; exact z.2.2))]
              · by_cases h2 : i < 64 * x ∧ i % 64 = 2 ^ M - 1 ∧ enB β (i / 64) tone = true
                · rw [if_pos h2, if_pos ⟨by omega, h2.2⟩]
                · rw [if_neg h2, if_neg (fun z => h2 ⟨by omega, z.2⟩)]
            · have hen := wbn.mp c_64
              refine g_aload_n (q := 68) dX12_laysStill_67 rfl rfl ?_
              refine g_getA (q := 71) (kI := 22) fX12_44 (by first | assumption | exact S.at _ rfl) dX12_laysStill_68 rfl rfl (by first | assumption | exact L.at _ _ rfl | exact LK.at (by assumption) _ _ rfl | ((repeat first | rewrite [wr_na (by decide)] | rewrite [wr_nk (by decide)] | rewrite [wa_na (by decide)]); first | assumption | exact LK.at (by assumption) _ _ rfl) | exact rfl) ?_
              refine g_bipush (q := 73) dX12_laysStill_71 (by decide +kernel) rfl ?_
              refine g_iload (q := 75) dX12_laysStill_73 rfl rfl ?_
              refine g_imul (q := 76) dX12_laysStill_75 rfl ?_
              refine g_iload_n (q := 77) dX12_laysStill_76 rfl rfl ?_
              refine g_iadd (q := 78) dX12_laysStill_77 rfl ?_
              refine g_iconst (q := 79) dX12_laysStill_78 rfl ?_
              refine g_isub (q := 80) dX12_laysStill_79 rfl ?_
              refine g_iconst (q := 81) dX12_laysStill_80 rfl ?_
              refine g_iastore (q := 82) (by first | assumption | exact S.at _ rfl) (by omega) (by omega) (by omega) dX12_laysStill_81 rfl ?_
              refine s_iinc_8_5 (q := 85) dX12_laysStill_82 rfl rfl rfl ?_
              refine g_goto (q := 49) dX12_laysStill_85 (by decide) ?_
              refine kk _ _ (by simp [lsSub]) ⟨by omega, e.wr (by decide), fun i a b => ?_⟩
              by_cases hi : i = 64 * x + 2 ^ M - 1
              · subst hi
                rw [wr_eq, if_pos ⟨by omega, by omega, by rw [show (64 * x + 2 ^ M - 1) / 64 = x by omega]; exact hen⟩]
              · rw [wr_nk hi, i1 i a b]
                by_cases h2 : i < 64 * x ∧ i % 64 = 2 ^ M - 1 ∧ enB β (i / 64) tone = true
                · rw [if_pos h2, if_pos ⟨by omega, h2.2⟩]
                · rw [if_neg h2, if_neg (fun z => h2 ⟨by omega, z.2⟩)]
        · rintro c ⟨-, e, i1⟩
          refine g_iload (q := 51) dX12_laysStill_49 rfl rfl ?_
          refine g_sipush (q := 54) dX12_laysStill_51 (by decide +kernel) rfl ?_
          refine g_icmp_ge (q := 57) (tg := 88) dX12_laysStill_54 (by decide) rfl (fun c_54 => ?_) (fun c_54 => ?_)
          · refine g_iconst (q := 89) dX12_laysStill_88 rfl ?_
            refine s_istore_8_5 (q := 91) dX12_laysStill_89 rfl rfl rfl ?_
            refine rounds 44801 0 c _ _ (by omega) e ⟨fun j j0 j1 j2 => ?_, fun x s x0 x1 s0 s1 => ?_, fun i h1 h2 => by omega⟩
            · rw [i1 j j0 j1, if_neg (by omega)]
            · have hw : wM M = 2 ^ M - 1 := by
                unfold wM
                have e9 : ((2 ^ M : Nat) : Int) = (2 : Int) ^ M := by simp
                have : 1 ≤ 2 ^ M := Nat.one_le_two_pow
                rw [← e9]
                omega
              rw [i1 (64 * x + s) (by omega) (by omega), show (64 * x + s) % 64 = s by omega, show (64 * x + s) / 64 = x by omega]
              by_cases h2 : s = 2 ^ M - 1 ∧ enB β x tone = true
              · rw [if_pos ⟨by omega, h2⟩]
                refine Or.inr ⟨0, Nat.le_refl _, rfl, ?_, fun m hm => by omega⟩
                show goalW β tone (wM M) (x, s)
                exact ⟨by rw [hw]; exact h2.1, h2.2⟩
              · rw [if_neg (fun z => h2 z.2)]
                refine Or.inl ⟨rfl, fun m hm hR => ?_⟩
                have : m = 0 := by omega
                subst this
                have hg : goalW β tone (wM M) (x, s) := hR
                exact h2 ⟨by rw [← hw]; exact hg.1, hg.2⟩
          · exact absurd c_54 (by decide)
      · exact absurd c_24 (by decide)
  refine Mt.of rfl (Nat.le_of_ble_eq_true rfl) ?_
  show G _ 0 [some (.inr (.inr 92)), some (.inl tone), some (.inl f), none, none, none, none, none] [] sh ct
  refine g_iload_n (q := 1) dX12_laysStill_0 rfl rfl ?_
  refine g_if_eq (q := 4) (tg := 15) dX12_laysStill_1 (by decide) rfl (fun c_1 => ?_) (fun c_1 => ?_)
  · have hM0 : M = 0 := by
      rcases hM.2 with h | h
      · exact h.2
      · rw [h.1] at c_1
        exact absurd c_1 (by decide)
    refine g_iconst (q := 16) dX12_laysStill_15 rfl ?_
    refine s_istore_n_8_3 (q := 17) dX12_laysStill_16 rfl rfl rfl ?_
    have := start none none
    rw [hM0] at this
    exact this
  · have hM1 : (M : Int) = β.n 2 := by
      rcases hM.2 with h | h
      · rw [h.1] at c_1
        exact absurd rfl c_1
      · exact h.2
    refine g_iconst (q := 5) dX12_laysStill_4 rfl ?_
    refine g_aload_n (q := 6) dX12_laysStill_5 rfl rfl ?_
    refine g_getA (q := 9) (kI := 1) fX12_13 (by first | assumption | exact S.at _ rfl) dX12_laysStill_6 rfl rfl (by first | assumption | exact L.at _ _ rfl | exact LK.at (by assumption) _ _ rfl | ((repeat first | rewrite [wr_na (by decide)] | rewrite [wr_nk (by decide)] | rewrite [wa_na (by decide)]); first | assumption | exact LK.at (by assumption) _ _ rfl) | exact rfl) ?_
    refine g_iconst (q := 10) dX12_laysStill_9 rfl ?_
    refine g_iaload (q := 11) (by first | assumption | exact S.at _ rfl) (by omega) (by omega) (by omega) dX12_laysStill_10 rfl ?_
    refine g_ishl (q := 12) dX12_laysStill_11 rfl ?_
    refine g_goto (q := 16) dX12_laysStill_12 (by decide) ?_
    rw [hmem.1, ← hM1]
    have e1 : shlI 1 M = 2 ^ M := by
      have := hM.1
      unfold shlI
      rw [show (M : Int) % 32 = M by omega, Int.one_mul]
      simp
    rw [e1]
    refine s_istore_n_8_3 (q := 17) dX12_laysStill_16 rfl rfl rfl ?_
    exact start none none
end
