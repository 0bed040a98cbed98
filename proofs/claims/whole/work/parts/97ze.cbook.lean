/-! the class reads a whole text -/
theorem digV_in {f : Int → Int} {n s e : Int} (h : runE isDg f n s e) : ∀ m : Nat, (m : Int) ≤ e - s → m ≤ 3 → 0 ≤ numV f s m ∧ numV f s m ≤ (if m = 0 then 0 else if m = 1 then 9 else if m = 2 then 99 else 999) := by
  intro m
  match m with
  | 0 => intro _ _; exact ⟨Int.le_refl _, Int.le_refl _⟩
  | 1 =>
    intro h1 _
    have g0 := h.2.1 s (by omega) (by omega)
    show 0 ≤ 0 * 10 + f (s + ((0 : Nat) : Int)) - 48 ∧ 0 * 10 + f (s + ((0 : Nat) : Int)) - 48 ≤ 9
    rw [show s + ((0 : Nat) : Int) = s by omega]
    omega
  | 2 =>
    intro h1 _
    have g0 := h.2.1 s (by omega) (by omega)
    have g1 := h.2.1 (s + 1) (by omega) (by omega)
    show 0 ≤ (0 * 10 + f (s + ((0 : Nat) : Int)) - 48) * 10 + f (s + ((1 : Nat) : Int)) - 48 ∧ (0 * 10 + f (s + ((0 : Nat) : Int)) - 48) * 10 + f (s + ((1 : Nat) : Int)) - 48 ≤ 99
    rw [show s + ((0 : Nat) : Int) = s by omega, show s + ((1 : Nat) : Int) = s + 1 by omega]
    omega
  | 3 =>
    intro h1 _
    have g0 := h.2.1 s (by omega) (by omega)
    have g1 := h.2.1 (s + 1) (by omega) (by omega)
    have g2 := h.2.1 (s + 2) (by omega) (by omega)
    show 0 ≤ ((0 * 10 + f (s + ((0 : Nat) : Int)) - 48) * 10 + f (s + ((1 : Nat) : Int)) - 48) * 10 + f (s + ((2 : Nat) : Int)) - 48 ∧ ((0 * 10 + f (s + ((0 : Nat) : Int)) - 48) * 10 + f (s + ((1 : Nat) : Int)) - 48) * 10 + f (s + ((2 : Nat) : Int)) - 48 ≤ 999
    rw [show s + ((0 : Nat) : Int) = s by omega, show s + ((1 : Nat) : Int) = s + 1 by omega, show s + ((2 : Nat) : Int) = s + 2 by omega]
    omega
  | m + 4 => intro _ h4; omega
theorem digK_in {f : Int → Int} {n s e : Int} (h : runE isDg f n s e) : digK f s e = 202 ∨ (1000 ≤ digK f s e ∧ digK f s e < 2000) := by
  unfold digK
  split
  · exact Or.inl rfl
  · refine Or.inr ?_
    have := digV_in h (e - s).toNat (by have := h.1; omega) (by omega)
    split at this
    · omega
    · split at this
      · omega
      · split at this <;> omega
theorem tokR.kb {f : Int → Int} {n p s e k : Int} (h : tokR f n p s e k) : 0 ≤ k ∧ k < 2000 ∧ k ≠ 203 := by
  obtain ⟨a, b⟩ := h
  rcases b with ⟨b1, b3, b4⟩ | ⟨b1, b⟩
  · omega
  · rcases b with ⟨d1, d2, d3⟩ | ⟨d1, d2, d3⟩ | ⟨d1, d2, d3, d4⟩
    · have := d3.in
      omega
    · have := digK_in d2
      omega
    · rcases d4 with ⟨⟨j, hj, hj2⟩, x2⟩ | ⟨x1, x2⟩
      · have := strB_in (i := 2) (j := j) (by decide) hj
        omega
      · omega
theorem TS.kd {f : Int → Int} {n : Int} {K Pl E : Int → Int} {T : Int} (h : TS f n K Pl E T) (hn : n ≤ 900) : kd T K ∧ ∀ i, 0 ≤ i → i < T → K i < 2000 := ⟨⟨by have := h.2.1; omega, h.2.2.2.2, fun i a b => ⟨(h.2.2.1 i a b).kb.1, by have := (h.2.2.1 i a b).kb.2.1; omega, (h.2.2.1 i a b).kb.2.2⟩⟩, fun i a b => (h.2.2.1 i a b).kb.2.1⟩
/-- nothing but the reader and the book b has changed -/
def txF (b : Int) (ct c : mbCt) : Prop := (∀ k, k ≠ 0 → k ≠ 1 → k ≠ 5 → k ≠ 6 → k ≠ 7 → k ≠ 8 → k ≠ 9 → c 64 k = ct 64 k) ∧ (∀ k, (k < 0 ∨ 10 < k) → c b k = ct b k) ∧ eqBut [64, 65, 66, b, b + 1, b + 2, b + 3, b + 4] ct c
theorem txF.tr {b : Int} {x y z : mbCt} (h : txF b x y) (h2 : txF b y z) : txF b x z := ⟨fun k a b c d e f g => (h2.1 k a b c d e f g).trans (h.1 k a b c d e f g), fun k a => (h2.2.1 k a).trans (h.2.1 k a), h.2.2.tr h2.2.2⟩
theorem rbF.t {b : Int} {ct c : mbCt} (f : rbF b ct c) : txF b ct c := ⟨fun k a b _ d e g _ => f.1 k a b d e g, f.2.1, f.2.2.mono (by simp)⟩
theorem txF.L {b : Int} {ct c : mbCt} (hb : b = 2 ∨ b = 7) (L : LK ct) (f : txF b ct c) : LK c := by
  have hb4 : bk4 b := hb.elim (fun h => Or.inl h) (fun h => Or.inr (Or.inl h))
  intro x k v hv
  by_cases hx : x = 64
  · subst hx
    by_cases h0 : k = 0
    · subst h0; cases hv
    · by_cases h1 : k = 1
      · subst h1; cases hv
      · by_cases h5 : k = 5
        · subst h5; cases hv
        · by_cases h6 : k = 6
          · subst h6; cases hv
          · by_cases h7 : k = 7
            · subst h7; cases hv
            · by_cases h8 : k = 8
              · subst h8; cases hv
              · by_cases h9 : k = 9
                · subst h9; cases hv
                · rw [f.1 k h0 h1 h5 h6 h7 h8 h9]; exact L _ _ _ hv
  · by_cases hxb : x = b
    · subst hxb
      by_cases h6 : k < 0 ∨ 10 < k
      · rw [f.2.1 k h6]; exact L _ _ _ hv
      · rw [lk_bk hb4 (by omega) (by omega)] at hv
        cases hv
    · by_cases hx4 : x = b + 1 ∨ x = b + 2 ∨ x = b + 3 ∨ x = b + 4
      · have : lkF x k = none := by
          rcases hx4 with rfl | rfl | rfl | rfl
          · exact lk_bkR hb4 (Or.inl rfl) k
          · exact lk_bkR hb4 (Or.inr (Or.inl rfl)) k
          · exact lk_bkR hb4 (Or.inr (Or.inr (Or.inl rfl))) k
          · exact lk_bkR hb4 (Or.inr (Or.inr (Or.inr rfl))) k
        rw [this] at hv
        cases hv
      · by_cases hx5 : x = 65
        · rw [hx5, lkF_none rfl k] at hv; cases hv
        · by_cases hx6 : x = 66
          · rw [hx6, lkF_none rfl k] at hv; cases hv
          · rw [f.2.2 x (by simp; omega)]
            exact L _ _ _ hv
section
variable (d : Nat) (sh : mbSh) (ct : mbCt) {b n : Int}
theorem r_readText (S : SH sh) (L : LK ct) (hb : b = 2 ∨ b = 7) (hT : txB (ct 1)) (hR : shR ct b) (h0 : 0 ≤ n) (h2 : n ≤ 900) : Mt YX6_readText (d + 28) [.inr (.inr 64), .inl n, .inr (.inr b)] sh sh ct (pN fun c => ∃ K Pl E T, TS (ct 1) n K Pl E T ∧ RB c b T K Pl (textP T K Pl) ∧ txF b ct c) := by
  generalize hPo : (pN fun c => ∃ K Pl E T, TS (ct 1) n K Pl E T ∧ RB c b T K Pl (textP T K Pl) ∧ txF b ct c) = Po
  have s1 : shA sh 1 = some (22, 900) := S.at _ rfl
  have s65 : shA sh 65 = some (20, 901) := S.at _ rfl
  have fa : txF b ct (wr (wr (wr ct 64 0 0) 64 1 (-1)) 64 9 b) := ⟨fun k k0 k1 _ _ _ _ k9 => by rw [wr_nk k9, wr_nk k1, wr_nk k0], fun k hk => by rw [wr_na (by omega), wr_na (by omega), wr_na (by omega)], ((eqBut.rf.wr (by simp)).wr (by simp)).wr (by simp)⟩
  have ea0 : (wr (wr (wr ct 64 0 0) 64 1 (-1)) 64 9 b) 64 0 = 0 := by rw [wr_nk (by decide), wr_nk (by decide), wr_eq]
  have ea1 : (wr (wr (wr ct 64 0 0) 64 1 (-1)) 64 9 b) 64 1 = -1 := by rw [wr_nk (by decide), wr_eq]
  have ea9 : (wr (wr (wr ct 64 0 0) 64 1 (-1)) 64 9 b) 64 9 = b := wr_eq
  have ea4 : (wr (wr (wr ct 64 0 0) 64 1 (-1)) 64 9 b) (b + 4) = ct (b + 4) := by funext j; rw [wr_na (by omega), wr_na (by omega), wr_na (by omega)]
  refine Mt.of rfl (Nat.le_of_ble_eq_true rfl) ?_
  show G _ 0 [some (.inr (.inr 64)), some (.inl n), some (.inr (.inr b)), none] [] sh ct
  refine g_aload_n (q := 1) dX6_readText_0 rfl rfl ?_
  refine g_iconst (q := 2) dX6_readText_1 rfl ?_
  refine g_putI (q := 5) (kI := 0) fX6_30 (by first | assumption | exact S.at _ rfl) dX6_readText_2 rfl rfl ?_
  refine g_aload_n (q := 6) dX6_readText_5 rfl rfl ?_
  refine g_iconst (q := 7) dX6_readText_6 rfl ?_
  refine g_putI (q := 10) (kI := 1) fX6_9 (by first | assumption | exact S.at _ rfl) dX6_readText_7 rfl rfl ?_
  refine g_aload_n (q := 11) dX6_readText_10 rfl rfl ?_
  refine g_aload_n (q := 12) dX6_readText_11 rfl rfl ?_
  refine g_putO (q := 15) (kI := 9) fX6_26 (by first | assumption | exact S.at _ rfl) dX6_readText_12 rfl rfl ?_
  generalize wr (wr (wr ct 64 0 0) 64 1 (-1)) 64 9 b = ca at fa ea0 ea1 ea9 ea4
  have La := fa.L hb L
  obtain ⟨s0, -, -, -, -, -, -, -, -⟩ := bkAt_b S La hb
  refine g_aload_n (q := 16) dX6_readText_15 rfl rfl ?_
  refine g_getO (q := 19) (kI := 9) fX6_26 (by first | assumption | exact S.at _ rfl) dX6_readText_16 rfl rfl ea9 ?_
  refine g_callV (q := 22) lX6_33 mX0_clear nX0_clear rfl (c_clear 0 sh _ (bkAt_b S La hb)) (by first | assumption | exact S.at _ rfl) rfl rfl shLe.rf (rmOk.mk (by omega) (by first | exact shLe.rf | assumption)) (Nat.le_of_ble_eq_true rfl) dX6_readText_19 rfl rfl (kN fun c1 hp => ?_)
  have fb : txF b ca c1 := by
    rw [hp]
    refine ⟨fun k _ _ _ _ _ _ _ => ?_, fun k hk => ?_, fun x hx => ?_⟩
    · unfold clC
      rw [if_neg (by omega), if_neg (by omega), if_neg (by omega), if_neg (by omega)]
    · unfold clC
      rw [if_neg (by omega), if_neg (by omega), if_neg (by omega), if_neg (by omega)]
    · funext k
      simp at hx
      unfold clC
      rw [if_neg (by omega), if_neg (by omega), if_neg (by omega), if_neg (by omega)]
  have zb : bkM c1 b ((fun _ => 0), (fun _ => 0), (fun _ => 0), (fun _ => 0)) ∧ c1 b 6 = 0 ∧ c1 (b + 4) = ct (b + 4) ∧ c1 64 0 = 0 ∧ c1 64 1 = -1 ∧ c1 64 9 = b := by
    rw [hp]
    refine ⟨⟨fun k k0 k1 _ => ?_, fun m m0 m1 => ?_, fun y y0 y1 => ⟨?_, ?_⟩⟩, ?_, ?_, ?_, ?_, ?_⟩
    · unfold clC; rw [if_pos ⟨rfl, k0, k1⟩]
    · unfold clC; rw [if_neg (by omega), if_pos ⟨rfl, m0, m1⟩]
    · unfold clC; rw [if_neg (by omega), if_neg (by omega), if_pos ⟨rfl, y0, y1⟩]
    · unfold clC; rw [if_neg (by omega), if_neg (by omega), if_neg (by omega), if_pos ⟨rfl, y0, y1⟩]
    · unfold clC; rw [if_pos ⟨rfl, by decide, by decide⟩]
    · funext k; unfold clC; rw [if_neg (by omega), if_neg (by omega), if_neg (by omega), if_neg (by omega)]; rw [ea4]
    · unfold clC; rw [if_neg (by omega), if_neg (by omega), if_neg (by omega), if_neg (by omega)]; exact ea0
    · unfold clC; rw [if_neg (by omega), if_neg (by omega), if_neg (by omega), if_neg (by omega)]; exact ea1
    · unfold clC; rw [if_neg (by omega), if_neg (by omega), if_neg (by omega), if_neg (by omega)]; exact ea9
  obtain ⟨z1, z2, z3, z4, z5, z6⟩ := zb
  have f1 := fa.tr fb
  have L1 := f1.L hb L
  have t1 : c1 1 = ct 1 := f1.2.2 1 (by simp; omega)
  clear hp
  refine g_aload_n (q := 23) dX6_readText_22 rfl rfl ?_
  refine g_iload_n (q := 24) dX6_readText_23 rfl rfl ?_
  refine g_aload_n (q := 25) dX6_readText_24 rfl rfl ?_
  refine g_getA (q := 28) (kI := 2) fX6_22 (by first | assumption | exact S.at _ rfl) dX6_readText_25 rfl rfl (by first | assumption | exact L.at _ _ rfl | exact LK.at (by assumption) _ _ rfl | ((repeat first | rewrite [wr_na (by decide)] | rewrite [wr_nk (by decide)] | rewrite [wa_na (by decide)]); first | assumption | exact LK.at (by assumption) _ _ rfl) | exact rfl) ?_
  refine g_alen (q := 29) (by first | assumption | exact S.at _ rfl) (by decide) dX6_readText_28 rfl rfl ?_
  refine g_mmin (q := 32) lX6_38 tb_mminS tb_mI tb_mminC (rmOk.mk (by omega) (by first | exact shLe.rf | assumption)) (Nat.le_of_ble_eq_true rfl) dX6_readText_29 rfl ?_
  rw [if_neg (by rw [w32_id (x := n) (by omega) (by omega)]; show ¬ (900 : Int) < n; omega)]
  refine g_callV (q := 35) lX6_44 mX6_layTokens nX6_layTokens rfl (r_layTokens 0 sh _ S L1 (by rw [t1]; exact hT) h0 h2) (by first | assumption | exact S.at _ rfl) rfl rfl shLe.rf (rmOk.mk (by omega) (by first | exact shLe.rf | assumption)) (Nat.le_of_ble_eq_true rfl) dX6_readText_32 rfl rfl (kN fun c2 hp => ?_)
  obtain ⟨⟨E, hTS⟩, e5, fe⟩ := hp
  rw [t1] at hTS
  have fc : txF b c1 c2 := ⟨fun k _ _ k5 _ _ _ _ => e5 k k5, fun k hk => by rw [fe b (by simp; omega)], fe.mono (by simp)⟩
  have f2 := f1.tr fc
  have L2 := f2.L hb L
  obtain ⟨hkd, hK2⟩ := hTS.kd h2
  have hT0 := hkd.1
  have e65 : wr (wr c2 64 6 0) 64 7 (c2 65 0) 65 = c2 65 := by funext j; rw [wr_na (by decide), wr_na (by decide)]
  have e66 : wr (wr c2 64 6 0) 64 7 (c2 65 0) 66 = c2 66 := by funext j; rw [wr_na (by decide), wr_na (by decide)]
  have eo : ∀ x, x ≠ 64 → wr (wr c2 64 6 0) 64 7 (c2 65 0) x = c2 x := fun x hx => by funext j; rw [wr_na hx, wr_na hx]
  have e64 : ∀ k, k ≠ 6 → k ≠ 7 → wr (wr c2 64 6 0) 64 7 (c2 65 0) 64 k = c2 64 k := fun k k6 k7 => by rw [wr_nk k7, wr_nk k6]
  have e646 : wr (wr c2 64 6 0) 64 7 (c2 65 0) 64 6 = 0 := by rw [wr_nk (by decide), wr_eq]
  have e647 : wr (wr c2 64 6 0) 64 7 (c2 65 0) 64 7 = c2 65 0 := wr_eq
  have fd : txF b c2 (wr (wr c2 64 6 0) 64 7 (c2 65 0)) := ⟨fun k _ _ _ k6 k7 _ _ => e64 k k6 k7, fun k hk => by rw [eo b (by omega)], (eqBut.rf.wr (by simp)).wr (by simp)⟩
  refine g_aload_n (q := 36) dX6_readText_35 rfl rfl ?_
  refine g_iconst (q := 37) dX6_readText_36 rfl ?_
  refine g_putI (q := 40) (kI := 6) fX6_48 (by first | assumption | exact S.at _ rfl) dX6_readText_37 rfl rfl ?_
  refine g_aload_n (q := 41) dX6_readText_40 rfl rfl ?_
  refine g_aload_n (q := 42) dX6_readText_41 rfl rfl ?_
  refine g_getA (q := 45) (kI := 3) fX6_15 (by first | assumption | exact S.at _ rfl) dX6_readText_42 rfl rfl (by first | assumption | exact L.at _ _ rfl | exact LK.at (by assumption) _ _ rfl | ((repeat first | rewrite [wr_na (by decide)] | rewrite [wr_nk (by decide)] | rewrite [wa_na (by decide)]); first | assumption | exact LK.at (by assumption) _ _ rfl) | exact rfl) ?_
  refine g_iconst (q := 46) dX6_readText_45 rfl ?_
  refine g_iaload (q := 47) (by first | assumption | exact S.at _ rfl) (by omega) (by omega) (by omega) dX6_readText_46 rfl ?_
  rw [wr_na (by decide)]
  refine g_putI (q := 50) (kI := 7) fX6_51 (by first | assumption | exact S.at _ rfl) dX6_readText_47 rfl rfl ?_
  refine g_aload_n (q := 51) dX6_readText_50 rfl rfl ?_
  generalize wr (wr c2 64 6 0) 64 7 (c2 65 0) = c3 at e65 e66 eo e64 e646 e647 fd
  have f3 := f2.tr fd
  have L3 := f3.L hb L
  generalize hKK : c2 65 = K at hTS e65 hkd hK2
  generalize hPP : c2 66 = Pl at hTS e66
  generalize hTT : c2 64 5 = T at hTS hkd hK2 hT0
  have b0 : c3 b = c1 b := by rw [eo b (by omega), fe b (by simp; omega)]
  have b1 : c3 (b + 1) = c1 (b + 1) := by rw [eo _ (by omega), fe _ (by simp; omega)]
  have b2 : c3 (b + 2) = c1 (b + 2) := by rw [eo _ (by omega), fe _ (by simp; omega)]
  have b3 : c3 (b + 3) = c1 (b + 3) := by rw [eo _ (by omega), fe _ (by simp; omega)]
  have b4 : c3 (b + 4) = c1 (b + 4) := by rw [eo _ (by omega), fe _ (by simp; omega)]
  have D3 : RD c3 b T K Pl (0, 0, 0, []) := by
    refine ⟨⟨L3, hb, ?_, ?_, hkd.1, fun i i0 i1 => ⟨by rw [e65], by rw [e66], hkd.2.2 i i0 i1⟩, hkd.2.1⟩, ⟨Int.le_refl _, by show (0 : Int) < T; omega, e646⟩, ?_, ⟨?_, ?_⟩, ⟨?_, ?_⟩, by decide, fun _ => ⟨?_, fun j hj => absurd hj (Nat.not_lt_zero _)⟩⟩
    · rw [e64 9 (by decide) (by decide), e5 9 (by decide)]; exact z6
    · rw [e64 5 (by decide) (by decide)]; exact hTT
    · rw [e647, hKK]; rfl
    · rw [e64 0 (by decide) (by decide), e5 0 (by decide)]; exact z4
    · rw [e64 1 (by decide) (by decide), e5 1 (by decide)]; exact z5
    · rw [b0, z2]; decide
    · unfold shR; rw [b4, z3]; exact hR
    · rw [b0, z2]; rfl
  have R3 : RB c3 b T K Pl ((0, 0, 0, []), (fun _ => 0), (fun _ => 0), (fun _ => 0), (fun _ => 0)) := ⟨D3, fun _ => ⟨by rw [b0]; exact z1.1, by rw [b1]; exact z1.2.1, by rw [b2, b3]; exact z1.2.2⟩⟩
  refine g_callV (q := 54) lX6_54 mX6_readFirstLine nX6_readFirstLine rfl (r_readFirstLine 0 sh _ S hkd R3) (by first | assumption | exact S.at _ rfl) rfl rfl shLe.rf (rmOk.mk (by omega) (by first | exact shLe.rf | assumption)) (Nat.le_of_ble_eq_true rfl) dX6_readText_51 rfl rfl (kN fun c4 hp => ?_)
  obtain ⟨R4, f4⟩ := hp
  refine g_iconst (q := 55) dX6_readText_54 rfl ?_
  refine s_istore_n_4_3 (q := 56) dX6_readText_55 rfl rfl rfl ?_
  have f4' := f3.tr f4.t
  clear R3 D3 L3 L2 f2 f1 fa fb fc fd f3 f4 z1 z2 z3 z4 z5 z6 b0 b1 b2 b3 b4 e65 e66 eo e64 e646 e647
  refine g_forA (α := PS × BS) (fun i _ => [some (.inr (.inr 64)), some (.inl n), some (.inr (.inr b)), some (.inl i)]) (fun i e c => 0 ≤ i ∧ RB c b T K Pl e ∧ bkRi T e ∧ txF b ct c ∧ linesP T K Pl (T - i).toNat e = textP T K Pl) T ?_ ?_ (i := 0) (a := firstP T K Pl) (by omega) ⟨Int.le_refl _, R4, firstQ hkd, f4', by rw [show T - 0 = T by omega]; rfl⟩ (by simp [lsSub])
  · rintro i e c hi ⟨i0, R5, hI, f5, e5⟩ kk
    have D5 := R5.1
    have L := D5.L
    have htb := D5.tb
    have hto := D5.toks
    have h7 := D5.2.2.1
    have hwt : w32 (tkP K e.1) = tkP K e.1 := w32_id (by omega) (by omega)
    have out : (tkP K e.1 = 201 ∨ tkP K e.1 = 203) → G (mkK YX6_readText (d + 28) sh sh Po) 94 [some (.inr (.inr 64)), some (.inl n), some (.inr (.inr b)), some (.inl i)] [] sh c := by
      intro h
      have e6 : linesP T K Pl (T - i).toNat e = e := by
        cases (T - i).toNat with
        | zero => rfl
        | succ m => show (if tkP K e.1 = 201 ∨ tkP K e.1 = 203 then _ else _) = _; rw [if_pos h]
      rw [e6] at e5
      refine g_return dX6_readText_94 rfl ?_
      rw [← hPo]
      exact ⟨rfl, K, Pl, E, T, hTS, by rw [← e5]; exact R5, f5⟩
    refine g_iload_n (q := 57) dX6_readText_56 rfl rfl ?_
    refine g_aload_n (q := 58) dX6_readText_57 rfl rfl ?_
    refine g_getI (q := 61) (kI := 5) fX6_57 (by first | assumption | exact S.at _ rfl) dX6_readText_58 rfl rfl ?_
    rw [hto]
    refine g_icmp_ge (q := 64) (tg := 94) dX6_readText_61 (by decide) rfl (fun c_61 => ?_) (fun c_61 => ?_)
    · exact absurd c_61 (by rw [w32_id (x := i) (by omega) (by omega), w32_id (x := T) (by omega) (by omega)]; omega)
    · refine g_aload_n (q := 65) dX6_readText_64 rfl rfl ?_
      refine g_getI (q := 68) (kI := 7) fX6_51 (by first | assumption | exact S.at _ rfl) dX6_readText_65 rfl rfl ?_
      rw [h7]
      refine g_sipush (q := 71) dX6_readText_68 (by decide +kernel) rfl ?_
      refine g_icmp_eq (q := 74) (tg := 94) dX6_readText_71 (by decide) rfl (fun c_71 => ?_) (fun c_71 => ?_)
      · rw [hwt, show w32 201 = 201 from rfl] at c_71
        exact out (Or.inl c_71)
      · rw [hwt, show w32 201 = 201 from rfl] at c_71
        refine g_aload_n (q := 75) dX6_readText_74 rfl rfl ?_
        refine g_getI (q := 78) (kI := 7) fX6_51 (by first | assumption | exact S.at _ rfl) dX6_readText_75 rfl rfl ?_
        rw [h7]
        refine g_sipush (q := 81) dX6_readText_78 (by decide +kernel) rfl ?_
        refine g_icmp_eq (q := 84) (tg := 94) dX6_readText_81 (by decide) rfl (fun c_81 => ?_) (fun c_81 => ?_)
        · rw [hwt, show w32 203 = 203 from rfl] at c_81
          exact out (Or.inr c_81)
        · rw [hwt, show w32 203 = 203 from rfl] at c_81
          refine g_aload_n (q := 85) dX6_readText_84 rfl rfl ?_
          refine g_callV (q := 88) lX6_60 mX6_readLine nX6_readLine rfl (r_readLine d sh _ S R5 hI hK2 (tk_w c_81)) (by first | assumption | exact S.at _ rfl) rfl rfl shLe.rf (rmOk.mk (by omega) (by first | exact shLe.rf | assumption)) (Nat.le_of_ble_eq_true rfl) dX6_readText_85 rfl rfl (kN fun c6 hp => ?_)
          obtain ⟨R6, f6⟩ := hp
          refine s_iinc_4_3 (q := 91) dX6_readText_88 rfl rfl rfl ?_
          refine g_goto (q := 56) dX6_readText_91 (by decide) ?_
          refine kk _ _ _ (by simp [lsSub]) ⟨by omega, R6, (endQ hkd (lineQ hkd hK2 hI).1).1, f5.tr f6.t, ?_⟩
          rw [← e5, show (T - i).toNat = (T - (i + 1)).toNat + 1 by omega]
          show _ = (if tkP K e.1 = 201 ∨ tkP K e.1 = 203 then _ else _)
          rw [if_neg (fun z => by rcases z with z | z; exact c_71 z; exact c_81 z)]
  · rintro e c ⟨i0, R5, hI, f5, e5⟩
    have D5 := R5.1
    have L := D5.L
    have hto := D5.toks
    rw [show (T - T).toNat = 0 by omega] at e5
    refine g_iload_n (q := 57) dX6_readText_56 rfl rfl ?_
    refine g_aload_n (q := 58) dX6_readText_57 rfl rfl ?_
    refine g_getI (q := 61) (kI := 5) fX6_57 (by first | assumption | exact S.at _ rfl) dX6_readText_58 rfl rfl ?_
    rw [hto]
    refine g_icmp_ge (q := 64) (tg := 94) dX6_readText_61 (by decide) rfl (fun c_61 => ?_) (fun c_61 => ?_)
    · refine g_return dX6_readText_94 rfl ?_
      rw [← hPo]
      exact ⟨rfl, K, Pl, E, T, hTS, by rw [← e5]; exact R5, f5⟩
    · exact absurd c_61 (Int.lt_irrefl _)
end
