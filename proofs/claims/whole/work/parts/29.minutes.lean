/-! Moves: the minutes at which nobody baulks, as bits -/
def bset (p : Nat → Bool) : Nat → Nat
  | 0 => 0
  | n + 1 => bset p n + (if p n = true then 2 ^ n else 0)
theorem bset_lt (p : Nat → Bool) : ∀ n, bset p n < 2 ^ n
  | 0 => by simp [bset]
  | n + 1 => by
    have h := bset_lt p n
    unfold bset
    rw [Nat.pow_succ]
    split <;> omega
theorem bset_pad {p : Nat → Bool} {n : Nat} : ∀ k, (∀ i, n ≤ i → i < n + k → p i = false) → bset p (n + k) = bset p n
  | 0, _ => rfl
  | k + 1, h => by
    show bset p (n + k) + (if p (n + k) = true then 2 ^ (n + k) else 0) = _
    rw [if_neg (by rw [h (n + k) (by omega) (by omega)]; decide), bset_pad k (fun i h1 h2 => h i h1 (by omega))]
    rfl
theorem bset_cong {p q : Nat → Bool} : ∀ n, (∀ i, i < n → p i = q i) → bset p n = bset q n
  | 0, _ => rfl
  | n + 1, h => by
    unfold bset
    rw [bset_cong n (fun i hi => h i (by omega)), h n (by omega)]
theorem or_62 {B i : Nat} (hi : i < 62) (hB : B < 2 ^ i) : (2 ^ 62 + B) ||| 2 ^ i = 2 ^ 62 + (B + 2 ^ i) := by
  have h1 : 2 ^ i < 2 ^ 62 := Nat.pow_lt_pow_right (by decide) hi
  have h2 : B + 2 ^ i < 2 ^ 62 := by
    have : 2 ^ (i + 1) ≤ 2 ^ 62 := Nat.pow_le_pow_right (by decide) (by omega)
    rw [Nat.pow_succ] at this
    omega
  have e1 : 2 ^ 62 + B = 2 ^ 62 ||| B := by
    have := Nat.two_pow_add_eq_or_of_lt (i := 62) (b := B) (by omega) 1
    simpa using this
  have e2 : B + 2 ^ i = 2 ^ i ||| B := by
    have := Nat.two_pow_add_eq_or_of_lt (i := i) (b := B) hB 1
    simp at this
    omega
  have e3 : 2 ^ 62 + (B + 2 ^ i) = 2 ^ 62 ||| (B + 2 ^ i) := by
    have := Nat.two_pow_add_eq_or_of_lt (i := 62) (b := B + 2 ^ i) h2 1
    simpa using this
  rw [e3, e2, e1, Nat.or_assoc, Nat.or_comm B]
/-- whether the minute of the bit i is one at which nobody baulks, by the marks in use -/
def pmB (ct : mbCt) (b st : Int) (i : Nat) : Bool := decide ((i / 8 : Nat) < ct b 2) && decide ((i % 8 : Nat) < ct b 3) && wouldB ct b st (i / 8 : Nat) (ct 71 (i / 8 : Nat)) (i % 8 : Nat)
def mset (ct : mbCt) (b st : Int) : Int := (bset (pmB ct b st) 48 : Nat)
theorem mset_in (ct : mbCt) (b st : Int) : 0 ≤ mset ct b st ∧ mset ct b st < 281474976710656 := by
  unfold mset
  have := bset_lt (pmB ct b st) 48
  omega
def mvMin (ct : mbCt) (b : Int) : Prop := ∀ k, 0 ≤ k → k < 700 → ct 72 k = 0 ∨ ct 72 k = 4611686018427387904 + mset ct b k
theorem mset_eq {ct c : mbCt} {b : Int} (h1 : c b = ct b) (h2 : c (b + 4) = ct (b + 4)) (h3 : ∀ m, 0 ≤ m → m < ct b 2 → c 71 m = ct 71 m) (st : Int) : mset c b st = mset ct b st := by
  unfold mset
  congr 1
  apply bset_cong
  intro i _
  unfold pmB
  rw [h1, wouldB_eq h1 h2]
  by_cases h : ((i / 8 : Nat) : Int) < ct b 2
  · rw [h3 _ (by omega) h]
  · rw [decide_eq_false h]
    simp
def noLast (ct : mbCt) (b : Int) : Prop := ∀ op ∈ codeL (ct (b + 4)) (ct b 7) (ct b 8 - ct b 7).toNat, op ≠ -3
theorem semS_nl {f g : Int → Int} {op : Int} {st : List Int} (h : ∀ i, i ≠ 2 → f i = g i) (hn : op ≠ -3) : semS f op st = semS g op st := by
  unfold semS
  split
  · split
    · rfl
    · rw [h (-1 - op) (by omega)]
  · rfl
theorem semL_nl {f g : Int → Int} (h : ∀ i, i ≠ 2 → f i = g i) : ∀ (l : List Int) (st : List Int), (∀ op ∈ l, op ≠ -3) → semL f l st = semL g l st
  | [], st, _ => rfl
  | op :: r, st, hn => by
    show semL f r (semS f op st) = semL g r (semS g op st)
    rw [semS_nl h (hn op List.mem_cons_self)]
    exact semL_nl h r _ (fun o ho => hn o (List.mem_cons_of_mem _ ho))
theorem wouldB_nl {ct : mbCt} {b : Int} (h : noLast ct b) (st w m s : Int) : wouldB ct b (st - st % 7) w m s = wouldB ct b st w m s := by
  unfold wouldB
  rw [semL_nl (f := askF (st - st % 7) w m s) (g := askF st w m s) (fun i hi => ?_) _ _ h]
  unfold askF
  rw [show (st - st % 7) / 70 = st / 70 by omega, show (st - st % 7) / 7 = st / 7 by omega]
  split
  · rfl
  · split
    · rfl
    · first | rw [if_neg hi, if_neg hi] | (split <;> first | rfl | (exfalso; omega))
theorem mset_nl {ct : mbCt} {b : Int} (h : noLast ct b) (st : Int) : mset ct b (st - st % 7) = mset ct b st := by
  unfold mset
  congr 1
  apply bset_cong
  intro i _
  unfold pmB
  rw [wouldB_nl h]
theorem and_48 {B : Int} (h0 : 0 ≤ B) (h1 : B < 281474976710656) : andL (4611686018427387904 + B) 281474976710655 = B := by
  unfold andL
  rw [show ((281474976710655 : Int) % 18446744073709551616).toNat = 2 ^ 48 - 1 from rfl, Nat.and_two_pow_sub_one_eq_mod]
  omega
section
variable (d : Nat) (sh : mbSh) (ct : mbCt)
set_option maxRecDepth 4000 in
theorem c_minutesAt {b st : Int} (S : SH sh) (L : LK ct) (hb : bkN b) (h70 : ct 70 0 = b) (hw : bkWf ct b) (ha : askOk (ct 69)) (hm : mvMin ct b) (h0 : 0 ≤ st) (h1 : st < 700) (hl : ct 70 6 = 0 ∨ ct 70 6 = 1) (hnl : ct 70 6 = 0 → noLast ct b) (m0 : 0 ≤ ct b 2) (m1 : ct b 2 ≤ 6) (s0 : 0 ≤ ct b 3) (s1 : ct b 3 ≤ 8) (hmk : ∀ m, 0 ≤ m → m < ct b 2 → 0 ≤ ct 71 m ∧ ct 71 m ≤ 9) : Mt YX4_minutesAt (d + 2) [.inr (.inr 70), .inl st] sh sh ct (pL fun r c => r = mset ct b st ∧ eqBut [68, 69, 72] ct c ∧ askOk (c 69) ∧ mvMin c b) := by
  have bne : b ≠ 72 ∧ b + 4 ≠ 72 ∧ b ∉ [68, 69] ∧ b + 4 ∉ [68, 69] := by rcases hb with rfl | rfl <;> decide
  have s72 : shA sh 72 = some (21, 700) := S.at _ rfl
  have s71 : shA sh 71 = some (20, 6) := S.at _ rfl
  obtain ⟨b1, -⟩ := bk_at S L hb
  generalize hP : (pL fun r c => r = mset ct b st ∧ eqBut [68, 69, 72] ct c ∧ askOk (c 69) ∧ mvMin c b) = Po
  have tail : ∀ (key : Int) (c : mbCt) (o3 o4 o5 o6 : Option gV), 0 ≤ key → key < 700 → mset ct b key = mset ct b st → eqBut [68, 69, 72] ct c → askOk (c 69) → mvMin c b → c 72 key = 4611686018427387904 + mset ct b key → G (mkK YX4_minutesAt (d + 2) sh sh Po) 118 [some (.inr (.inr 70)), some (.inl st), some (.inl key), o3, o4, o5, o6] [] sh c := by
    intro key c o3 o4 o5 o6 k0 k1 hk he hak hmc hck
    have l1 : c 70 3 = 72 := by rw [he 70 (by decide)]; exact L.at _ _ rfl
    refine g_aload_n (q := 119) dX4_minutesAt_118 rfl rfl ?_
    refine g_getA (q := 122) (kI := 3) fX4_15 (by first | assumption | exact S.at _ rfl) dX4_minutesAt_119 rfl rfl (by first | assumption | exact L.at _ _ rfl | exact LK.at (by assumption) _ _ rfl | ((repeat first | rewrite [wr_na (by decide)] | rewrite [wr_nk (by decide)] | rewrite [wa_na (by decide)]); first | assumption | exact LK.at (by assumption) _ _ rfl) | exact rfl) ?_
    refine g_iload_n (q := 123) dX4_minutesAt_122 rfl rfl ?_
    refine g_laload (q := 124) (by first | assumption | exact S.at _ rfl) (by omega) (by omega) (by omega) dX4_minutesAt_123 rfl ?_
    rw [hck]
    refine g_ldc2 (q := 127) dX4_minutesAt_124 kX4_113 rfl ?_
    refine g_land (q := 128) dX4_minutesAt_127 rfl ?_
    refine g_lreturn dX4_minutesAt_128 rfl ?_
    rw [and_48 (mset_in ct b key).1 (mset_in ct b key).2, hk, ← hP]
    exact ⟨_, rfl, rfl, he, hak, hmc⟩
  have main : ∀ key : Int, 0 ≤ key → key < 700 → mset ct b key = mset ct b st → G (mkK YX4_minutesAt (d + 2) sh sh Po) 17 [some (.inr (.inr 70)), some (.inl st), none, none, none, none, none] [.inl key] sh ct := by
    intro key k0 k1 hk
    have outer : ∀ (k : Nat) (m : Int) (c : mbCt) (o6 : Option gV), m + k = ct b 2 → 0 ≤ m → eqBut [68, 69] ct c → askOk (c 69) → G (mkK YX4_minutesAt (d + 2) sh sh Po) 36 [some (.inr (.inr 70)), some (.inl st), some (.inl key), some (.inr (.inl (4611686018427387904 + (bset (pmB ct b key) (8 * m).toNat : Nat)))), none, some (.inl m), o6] [] sh c := by
      intro k
      induction k with
      | zero =>
        intro m c o6 hmk2 hm0 he hak
        have hb1 : c b = ct b := he b bne.2.2.1
        have hb4 : c (b + 4) = ct (b + 4) := he _ bne.2.2.2
        have lb : c 70 0 = b := by rw [he 70 (by decide)]; exact h70
        have l3 : c 70 3 = 72 := by rw [he 70 (by decide)]; exact L.at _ _ rfl
        refine g_iload (q := 38) dX4_minutesAt_36 rfl rfl ?_
        refine g_aload_n (q := 39) dX4_minutesAt_38 rfl rfl ?_
        refine g_getO (q := 42) (kI := 0) fX4_32 (by first | assumption | exact S.at _ rfl) dX4_minutesAt_39 rfl rfl (by first | assumption | exact L.at _ _ rfl | exact LK.at (by assumption) _ _ rfl | ((repeat first | rewrite [wr_na (by decide)] | rewrite [wr_nk (by decide)] | rewrite [wa_na (by decide)]); first | assumption | exact LK.at (by assumption) _ _ rfl) | exact rfl) ?_
        refine g_getI (q := 45) (kI := 2) fX4_95 (by first | assumption | exact S.at _ rfl) dX4_minutesAt_42 rfl rfl ?_
        rw [hb1]
        refine g_icmp_ge (q := 48) (tg := 111) dX4_minutesAt_45 (by decide) rfl (fun c_45 => ?_) (fun c_45 => ?_)
        · have hfull : (bset (pmB ct b key) (8 * m).toNat : Nat) = bset (pmB ct b key) 48 := by
            have := bset_pad (p := pmB ct b key) (n := (8 * m).toNat) (48 - (8 * m).toNat) (fun i i1 i2 => by unfold pmB; simp; intro h; omega)
            rw [show (8 * m).toNat + (48 - (8 * m).toNat) = 48 by omega] at this
            exact this.symm
          rw [hfull]
          refine g_aload_n (q := 112) dX4_minutesAt_111 rfl rfl ?_
          refine g_getA (q := 115) (kI := 3) fX4_15 (by first | assumption | exact S.at _ rfl) dX4_minutesAt_112 rfl rfl (by first | assumption | exact L.at _ _ rfl | exact LK.at (by assumption) _ _ rfl | ((repeat first | rewrite [wr_na (by decide)] | rewrite [wr_nk (by decide)] | rewrite [wa_na (by decide)]); first | assumption | exact LK.at (by assumption) _ _ rfl) | exact rfl) ?_
          refine g_iload_n (q := 116) dX4_minutesAt_115 rfl rfl ?_
          refine g_lload_n (q := 117) dX4_minutesAt_116 rfl rfl ?_
          refine g_lastore (q := 118) (by first | assumption | exact S.at _ rfl) (by omega) (by omega) (by omega) dX4_minutesAt_117 rfl ?_
          refine tail key _ _ _ _ _ k0 k1 hk ((he.mono (by simp)).wr (by decide)) (by rw [wr_other _ _ _ _ _ (by decide)]; exact hak) ?_ (by rw [wr_eq]; rfl)
          intro q q0 q1
          rw [mset_eq (ct := ct) (by rw [wr_other _ _ _ _ _ bne.1, hb1]) (by rw [wr_other _ _ _ _ _ bne.2.1, hb4]) (fun m _ _ => by rw [wr_other _ _ _ _ _ (by decide), he 71 (by decide)])]
          by_cases e : q = key
          · subst e
            rw [wr_eq]
            exact Or.inr rfl
          · rw [wr_nk e, he 72 (by decide)]
            exact hm q q0 q1
        · exact absurd c_45 (by unfold w32; omega)
      | succ k ih =>
        intro m c o6 hmk2 hm0 he hak
        have inner : ∀ (k2 : Nat) (s : Int) (c : mbCt), s + k2 = ct b 3 → 0 ≤ s → eqBut [68, 69] ct c → askOk (c 69) → G (mkK YX4_minutesAt (d + 2) sh sh Po) 51 [some (.inr (.inr 70)), some (.inl st), some (.inl key), some (.inr (.inl (4611686018427387904 + (bset (pmB ct b key) (8 * m + s).toNat : Nat)))), none, some (.inl m), some (.inl s)] [] sh c := by
          intro k2
          induction k2 with
          | zero =>
            intro s c hs2 hs0 he hak
            have hb1 : c b = ct b := he b bne.2.2.1
            have lb : c 70 0 = b := by rw [he 70 (by decide)]; exact h70
            refine g_iload (q := 53) dX4_minutesAt_51 rfl rfl ?_
            refine g_aload_n (q := 54) dX4_minutesAt_53 rfl rfl ?_
            refine g_getO (q := 57) (kI := 0) fX4_32 (by first | assumption | exact S.at _ rfl) dX4_minutesAt_54 rfl rfl (by first | assumption | exact L.at _ _ rfl | exact LK.at (by assumption) _ _ rfl | ((repeat first | rewrite [wr_na (by decide)] | rewrite [wr_nk (by decide)] | rewrite [wa_na (by decide)]); first | assumption | exact LK.at (by assumption) _ _ rfl) | exact rfl) ?_
            refine g_getI (q := 60) (kI := 3) fX4_57 (by first | assumption | exact S.at _ rfl) dX4_minutesAt_57 rfl rfl ?_
            rw [hb1]
            refine g_icmp_ge (q := 63) (tg := 105) dX4_minutesAt_60 (by decide) rfl (fun c_60 => ?_) (fun c_60 => ?_)
            · have hpad : (bset (pmB ct b key) (8 * m + s).toNat : Nat) = bset (pmB ct b key) (8 * (m + 1)).toNat := by
                have := bset_pad (p := pmB ct b key) (n := (8 * m + s).toNat) (8 * (m + 1) - (8 * m + s)).toNat (fun i i1 i2 => by unfold pmB; simp; intro h1 h2; omega)
                rw [show (8 * m + s).toNat + (8 * (m + 1) - (8 * m + s)).toNat = (8 * (m + 1)).toNat by omega] at this
                exact this.symm
              rw [hpad]
              refine s_iinc_7_5 (q := 108) dX4_minutesAt_105 rfl rfl rfl ?_
              refine g_goto (q := 36) dX4_minutesAt_108 (by decide) ?_
              exact ih (m + 1) c _ (by omega) (by omega) he hak
            · exact absurd c_60 (by unfold w32; omega)
          | succ k2 ih2 =>
            intro s c hs2 hs0 he hak
            have hb1 : c b = ct b := he b bne.2.2.1
            have hb4 : c (b + 4) = ct (b + 4) := he _ bne.2.2.2
            have lb : c 70 0 = b := by rw [he 70 (by decide)]; exact h70
            have l1 : c 70 1 = 67 := by rw [he 70 (by decide)]; exact L.at _ _ rfl
            have l2 : c 70 2 = 71 := by rw [he 70 (by decide)]; exact L.at _ _ rfl
            have h71 : c 71 = ct 71 := he 71 (by decide)
            have Lc : LK c := L.but he (by
              intro a ha k v hv
              rcases (show a = 68 ∨ a = 69 by simpa using ha) with rfl | rfl <;> rw [lkF_none rfl] at hv <;> cases hv)
            have hmm := hmk m hm0 (by omega)
            have hidx : (8 * m + (s + 1)).toNat = (8 * m + s).toNat + 1 := by omega
            have hp8 : pmB ct b key (8 * m + s).toNat = wouldB ct b key m (ct 71 m) s := by
              unfold pmB
              have q1 : (((8 * m + s).toNat / 8 : Nat) : Int) = m := by omega
              have q2 : (((8 * m + s).toNat % 8 : Nat) : Int) = s := by omega
              rw [q1, q2]
              have q3 : m < ct b 2 := by omega
              have q4 : s < ct b 3 := by omega
              simp [q3, q4]
            refine g_iload (q := 53) dX4_minutesAt_51 rfl rfl ?_
            refine g_aload_n (q := 54) dX4_minutesAt_53 rfl rfl ?_
            refine g_getO (q := 57) (kI := 0) fX4_32 (by first | assumption | exact S.at _ rfl) dX4_minutesAt_54 rfl rfl (by first | assumption | exact L.at _ _ rfl | exact LK.at (by assumption) _ _ rfl | ((repeat first | rewrite [wr_na (by decide)] | rewrite [wr_nk (by decide)] | rewrite [wa_na (by decide)]); first | assumption | exact LK.at (by assumption) _ _ rfl) | exact rfl) ?_
            refine g_getI (q := 60) (kI := 3) fX4_57 (by first | assumption | exact S.at _ rfl) dX4_minutesAt_57 rfl rfl ?_
            rw [hb1]
            refine g_icmp_ge (q := 63) (tg := 105) dX4_minutesAt_60 (by decide) rfl (fun c_60 => ?_) (fun c_60 => ?_)
            · exact absurd c_60 (by unfold w32; omega)
            · refine g_aload_n (q := 64) dX4_minutesAt_63 rfl rfl ?_
              refine g_getO (q := 67) (kI := 1) fX4_36 (by first | assumption | exact S.at _ rfl) dX4_minutesAt_64 rfl rfl (by first | assumption | exact L.at _ _ rfl | exact LK.at (by assumption) _ _ rfl | ((repeat first | rewrite [wr_na (by decide)] | rewrite [wr_nk (by decide)] | rewrite [wa_na (by decide)]); first | assumption | exact LK.at (by assumption) _ _ rfl) | exact rfl) ?_
              refine g_aload_n (q := 68) dX4_minutesAt_67 rfl rfl ?_
              refine g_getO (q := 71) (kI := 0) fX4_32 (by first | assumption | exact S.at _ rfl) dX4_minutesAt_68 rfl rfl (by first | assumption | exact L.at _ _ rfl | exact LK.at (by assumption) _ _ rfl | ((repeat first | rewrite [wr_na (by decide)] | rewrite [wr_nk (by decide)] | rewrite [wa_na (by decide)]); first | assumption | exact LK.at (by assumption) _ _ rfl) | exact rfl) ?_
              refine g_iload_n (q := 72) dX4_minutesAt_71 rfl rfl ?_
              refine g_iload (q := 74) dX4_minutesAt_72 rfl rfl ?_
              refine g_aload_n (q := 75) dX4_minutesAt_74 rfl rfl ?_
              refine g_getA (q := 78) (kI := 2) fX4_9 (by first | assumption | exact S.at _ rfl) dX4_minutesAt_75 rfl rfl (by first | assumption | exact L.at _ _ rfl | exact LK.at (by assumption) _ _ rfl | ((repeat first | rewrite [wr_na (by decide)] | rewrite [wr_nk (by decide)] | rewrite [wa_na (by decide)]); first | assumption | exact LK.at (by assumption) _ _ rfl) | exact rfl) ?_
              refine g_iload (q := 80) dX4_minutesAt_78 rfl rfl ?_
              refine g_iaload (q := 81) (by first | assumption | exact S.at _ rfl) (by omega) (by omega) (by omega) dX4_minutesAt_80 rfl ?_
              rw [h71]
              refine g_iload (q := 83) dX4_minutesAt_81 rfl rfl ?_
              refine g_callV (q := 86) lX4_103 mX7_wouldSay nX7_wouldSay rfl (c_wouldSay d sh c (b := b) (st := key) (who := m) (mk := ct 71 m) (sy := s) S Lc (bk_at S Lc hb) (bkWf_eq hb1 hb4 hw) k0 k1 hm0 (by omega) hmm.1 (by omega) hs0 (by omega) hak) (by first | assumption | exact S.at _ rfl) rfl rfl shLe.rf (rmOk.mk (by omega) (by first | exact shLe.rf | assumption)) (Nat.le_of_ble_eq_true rfl) dX4_minutesAt_83 rfl rfl (kI fun r c2 hp => ?_)
              obtain ⟨hr, he2, hak2⟩ := hp
              rw [wouldB_eq hb1 hb4] at hr
              have he3 := he.tr he2
              refine g_if_eq (q := 89) (tg := 99) dX4_minutesAt_86 (by decide) rfl (fun c_86 => ?_) (fun c_86 => ?_)
              · have hf : ¬ wouldB ct b key m (ct 71 m) s = true := by
                  intro h
                  rw [hr, ← b01_t h] at c_86
                  exact absurd c_86 (by decide)
                have hbs : bset (pmB ct b key) (8 * m + (s + 1)).toNat = bset (pmB ct b key) (8 * m + s).toNat := by
                  rw [hidx]
                  show bset _ _ + _ = _
                  rw [hp8, if_neg hf]
                  rfl
                rw [← hbs]
                refine s_iinc_7_6 (q := 102) dX4_minutesAt_99 rfl rfl rfl ?_
                refine g_goto (q := 51) dX4_minutesAt_102 (by decide) ?_
                exact ih2 (s + 1) c2 (by omega) (by omega) he3 hak2
              · have hf : wouldB ct b key m (ct 71 m) s = true := by
                  by_cases h : wouldB ct b key m (ct 71 m) s = true
                  · exact h
                  · rw [hr, ← b01_f h] at c_86
                    exact absurd rfl c_86
                have hbs : bset (pmB ct b key) (8 * m + (s + 1)).toNat = bset (pmB ct b key) (8 * m + s).toNat + 2 ^ (8 * m + s).toNat := by
                  rw [hidx]
                  show bset _ _ + _ = _
                  rw [hp8, if_pos hf]
                have hor : orL (4611686018427387904 + (bset (pmB ct b key) (8 * m + s).toNat : Nat)) (2 ^ (8 * m + s).toNat) = 4611686018427387904 + (bset (pmB ct b key) (8 * m + (s + 1)).toNat : Nat) := by
                  have hlt := bset_lt (pmB ct b key) (8 * m + s).toNat
                  have hi : (8 * m + s).toNat < 48 := by omega
                  have h47 : 2 ^ (8 * m + s).toNat ≤ 2 ^ 47 := Nat.pow_le_pow_right (by decide) (by omega)
                  have hcast : ((2 : Int) ^ (8 * m + s).toNat) = ((2 ^ (8 * m + s).toNat : Nat) : Int) := by rw [Int.natCast_pow]; rfl
                  unfold orL
                  rw [hcast, hbs]
                  have o := or_62 (B := bset (pmB ct b key) (8 * m + s).toNat) (i := (8 * m + s).toNat) (by omega) hlt
                  have t1 : ((4611686018427387904 + ((bset (pmB ct b key) (8 * m + s).toNat : Nat) : Int)) % 18446744073709551616).toNat = 2 ^ 62 + bset (pmB ct b key) (8 * m + s).toNat := by omega
                  have t2 : ((((2 ^ (8 * m + s).toNat : Nat) : Int)) % 18446744073709551616).toNat = 2 ^ (8 * m + s).toNat := by omega
                  rw [t1, t2, o]
                  omega
                refine g_lload_n (q := 90) dX4_minutesAt_89 rfl rfl ?_
                refine g_iload (q := 92) dX4_minutesAt_90 rfl rfl ?_
                refine g_iload (q := 94) dX4_minutesAt_92 rfl rfl ?_
                refine g_callSN (q := 97) lX4_109 mX11_minuteBit sX11_minuteBit rfl (c_minuteBit d sh c2 (m := m) (s := s) hm0 (by omega) hs0 (by omega)) shLe.rf (rmOk.mk (by omega) (by first | exact shLe.rf | assumption)) (Nat.le_of_ble_eq_true rfl) dX4_minutesAt_94 rfl rfl (kL fun r3 c3 hp3 => ?_)
                obtain ⟨rfl, rfl⟩ := hp3
                refine g_lor (q := 98) dX4_minutesAt_97 rfl ?_
                rw [hor]
                refine s_lstore_n_7_3 (q := 99) dX4_minutesAt_98 rfl rfl rfl ?_
                refine s_iinc_7_6 (q := 102) dX4_minutesAt_99 rfl rfl rfl ?_
                refine g_goto (q := 51) dX4_minutesAt_102 (by decide) ?_
                exact ih2 (s + 1) c3 (by omega) (by omega) he3 hak2
        have hb1 : c b = ct b := he b bne.2.2.1
        have lb : c 70 0 = b := by rw [he 70 (by decide)]; exact h70
        refine g_iload (q := 38) dX4_minutesAt_36 rfl rfl ?_
        refine g_aload_n (q := 39) dX4_minutesAt_38 rfl rfl ?_
        refine g_getO (q := 42) (kI := 0) fX4_32 (by first | assumption | exact S.at _ rfl) dX4_minutesAt_39 rfl rfl (by first | assumption | exact L.at _ _ rfl | exact LK.at (by assumption) _ _ rfl | ((repeat first | rewrite [wr_na (by decide)] | rewrite [wr_nk (by decide)] | rewrite [wa_na (by decide)]); first | assumption | exact LK.at (by assumption) _ _ rfl) | exact rfl) ?_
        refine g_getI (q := 45) (kI := 2) fX4_95 (by first | assumption | exact S.at _ rfl) dX4_minutesAt_42 rfl rfl ?_
        rw [hb1]
        refine g_icmp_ge (q := 48) (tg := 111) dX4_minutesAt_45 (by decide) rfl (fun c_45 => ?_) (fun c_45 => ?_)
        · exact absurd c_45 (by unfold w32; omega)
        · refine g_iconst (q := 49) dX4_minutesAt_48 rfl ?_
          refine s_istore_7_6 (q := 51) dX4_minutesAt_49 rfl rfl rfl ?_
          have := inner (ct b 3).toNat 0 c (by omega) (by omega) he hak
          rw [show 8 * m + 0 = 8 * m by omega] at this
          exact this
    refine s_istore_n_7_2 (q := 18) dX4_minutesAt_17 rfl rfl rfl ?_
    refine g_aload_n (q := 19) dX4_minutesAt_18 rfl rfl ?_
    refine g_getA (q := 22) (kI := 3) fX4_15 (by first | assumption | exact S.at _ rfl) dX4_minutesAt_19 rfl rfl (by first | assumption | exact L.at _ _ rfl | exact LK.at (by assumption) _ _ rfl | ((repeat first | rewrite [wr_na (by decide)] | rewrite [wr_nk (by decide)] | rewrite [wa_na (by decide)]); first | assumption | exact LK.at (by assumption) _ _ rfl) | exact rfl) ?_
    refine g_iload_n (q := 23) dX4_minutesAt_22 rfl rfl ?_
    refine g_laload (q := 24) (by first | assumption | exact S.at _ rfl) (by omega) (by omega) (by omega) dX4_minutesAt_23 rfl ?_
    refine g_lconst0 (q := 25) dX4_minutesAt_24 rfl ?_
    refine g_lcmp (q := 26) dX4_minutesAt_25 rfl ?_
    refine g_if_ne (q := 29) (tg := 118) dX4_minutesAt_26 (by decide) rfl (fun c_26 => ?_) (fun c_26 => ?_)
    · refine tail key ct _ _ _ _ k0 k1 hk eqBut.rf ha hm ?_
      rcases hm key k0 k1 with h | h
      · rw [h] at c_26
        exact absurd rfl c_26
      · exact h
    · refine g_ldc2 (q := 32) dX4_minutesAt_29 kX4_101 rfl ?_
      refine s_lstore_n_7_3 (q := 33) dX4_minutesAt_32 rfl rfl rfl ?_
      refine g_iconst (q := 34) dX4_minutesAt_33 rfl ?_
      refine s_istore_7_5 (q := 36) dX4_minutesAt_34 rfl rfl rfl ?_
      have := outer (ct b 2).toNat 0 ct none (by omega) (by omega) eqBut.rf ha
      exact this
  refine Mt.of rfl (Nat.le_of_ble_eq_true rfl) ?_
  show G _ 0 [some (.inr (.inr 70)), some (.inl st), none, none, none, none, none] [] sh ct
  refine g_aload_n (q := 1) dX4_minutesAt_0 rfl rfl ?_
  refine g_getZ (q := 4) (kI := 6) fX4_40 (by first | assumption | exact S.at _ rfl) dX4_minutesAt_1 rfl rfl ?_
  refine g_if_eq (q := 7) (tg := 11) dX4_minutesAt_4 (by decide) rfl (fun c_4 => ?_) (fun c_4 => ?_)
  · have hz : ct 70 6 = 0 := by
      rcases hl with h | h
      · exact h
      · rw [h] at c_4
        exact absurd c_4 (by decide)
    refine g_iload_n (q := 12) dX4_minutesAt_11 rfl rfl ?_
    refine g_iload_n (q := 13) dX4_minutesAt_12 rfl rfl ?_
    refine g_callSN (q := 16) lX4_98 mX11_lastOf sX11_lastOf rfl (c_lastOf d sh ct h0 (by omega)) shLe.rf (rmOk.mk (by omega) (by first | exact shLe.rf | assumption)) (Nat.le_of_ble_eq_true rfl) dX4_minutesAt_13 rfl rfl (kI fun r c hp => ?_)
    obtain ⟨rfl, rfl⟩ := hp
    refine g_isub (q := 17) dX4_minutesAt_16 rfl ?_
    exact main (st - st % 7) (by omega) (by omega) (mset_nl (hnl hz) st)
  · refine g_iload_n (q := 8) dX4_minutesAt_7 rfl rfl ?_
    refine g_goto (q := 17) dX4_minutesAt_8 (by decide) ?_
    exact main st h0 h1 rfl
end
