/-! Moves as a whole: the book that is told, the marks that are heeded -/
theorem Mt.imp {Y : mbY} {d : Nat} {as : List gV} {sh shE : mbSh} {ct : mbCt} {Po Po' : Option gV → mbCt → Prop} (h : Mt Y d as sh shE ct Po) (hi : ∀ r c, Po r c → Po' r c) : Mt Y d as sh shE ct Po' := by
  intro l E p e h1 h2 h3 s m args below a1 a2 a3 a4
  obtain ⟨n, o, b1, b2, b3, ⟨⟨r, c, e1, e2, e3⟩, e4⟩, b5⟩ := h l E p e h1 h2 h3 s m args below a1 a2 a3 a4
  exact ⟨n, o, b1, b2, b3, ⟨⟨r, c, e1, e2, hi r c e3⟩, e4⟩, b5⟩
/-- a book: its numbers (tone, heat, members, sayings, stroke, lines); its turns; who would say what; where it closes -/
def Bk : Type := (Int → Int) × (Int → Int) × (Int → Int) × (Int → Int → Int → Int → Bool) × (Int → Bool)
def Bk.n (β : Bk) : Int → Int := β.1
def Bk.tt (β : Bk) : Int → Int := β.2.1
def Bk.ht (β : Bk) : Int → Int := β.2.2.1
def Bk.W (β : Bk) : Int → Int → Int → Int → Bool := β.2.2.2.1
def Bk.cl (β : Bk) : Int → Bool := β.2.2.2.2
def bkOf (ct : mbCt) (b : Int) : Bk := (ct b, ct (b + 2), ct (b + 3), wouldB ct b, closesB ct b)
def nxB (β : Bk) (st m s : Int) : Int := (c9 (st / 70 + β.tt s) * 10 + c9 (st / 7 % 10 + β.ht s)) * 7 + m
def canB (β : Bk) (mk : Int → Int) (st : Int) (i : Nat) : Bool := decide ((i / 8 : Nat) < β.n 2) && decide ((i % 8 : Nat) < β.n 3) && β.W st (i / 8 : Nat) (mk (i / 8 : Nat)) (i % 8 : Nat)
def msN (β : Bk) (mk : Int → Int) (st : Int) : Nat := bset (canB β mk st) 48
def enB (β : Bk) (st tone : Int) : Bool := (decide (tone = -1) || decide (st / 70 = tone)) && β.cl st
theorem nxB_in {β : Bk} {st m s : Int} (h0 : 0 ≤ m) (h1 : m ≤ 6) : 0 ≤ nxB β st m s ∧ nxB β st m s < 700 := by
  unfold nxB
  have h2 := c9_in (st / 70 + β.tt s)
  have h3 := c9_in (st / 7 % 10 + β.ht s)
  omega
theorem bset_bit (p : Nat → Bool) : ∀ n i, (bset p n).testBit i = (decide (i < n) && p i)
  | 0, i => by simp [bset]
  | n + 1, i => by
    unfold bset
    have h := bset_lt p n
    have ih := bset_bit p n i
    by_cases hp : p n = true
    · rw [if_pos hp, Nat.add_comm]
      rcases Nat.lt_trichotomy i n with h1 | h1 | h1
      · rw [Nat.testBit_two_pow_add_gt h1, ih, decide_eq_true h1, decide_eq_true (show i < n + 1 by omega)]
      · subst h1
        rw [Nat.testBit_two_pow_add_eq, ih, decide_eq_true (show i < i + 1 by omega)]
        simp [hp]
      · have h2 : 2 ^ n + bset p n < 2 ^ i := by
          have : 2 ^ (n + 1) ≤ 2 ^ i := Nat.pow_le_pow_right (by decide) h1
          rw [Nat.pow_succ] at this
          omega
        rw [Nat.testBit_lt_two_pow h2, decide_eq_false (show ¬ i < n + 1 by omega)]
        rfl
    · rw [if_neg hp, Nat.add_zero, ih]
      by_cases h1 : i = n
      · subst h1
        simp [hp]
      · congr 1
        rw [decide_eq_decide]
        omega
theorem msN_bit (β : Bk) (mk : Int → Int) (st : Int) (i : Nat) : (msN β mk st).testBit i = (decide (i < 48) && canB β mk st i) := bset_bit _ _ _
theorem msN_lt (β : Bk) (mk : Int → Int) (st : Int) : msN β mk st < 281474976710656 := bset_lt _ 48
def MV (ct : mbCt) (b : Int) (β : Bk) (mk : Int → Int) : Prop := (LK ct ∧ bkN b ∧ ct 70 0 = b) ∧ (bkWf ct b ∧ askOk (ct 69)) ∧ (mvMin ct b ∧ mvCl ct b ∧ mvTurn ct b) ∧ ((ct 70 6 = 0 ∨ ct 70 6 = 1) ∧ (ct 70 6 = 0 → noLast ct b)) ∧ (0 ≤ ct b 2 ∧ ct b 2 ≤ 6 ∧ 0 ≤ ct b 3 ∧ ct b 3 ≤ 8) ∧ (∀ m, 0 ≤ m → m < 6 → 0 ≤ ct 71 m ∧ ct 71 m ≤ 9) ∧ bkOf ct b = β ∧ (∀ m, 0 ≤ m → m < β.n 2 → ct 71 m = mk m)
section
variable {ct c : mbCt} {b : Int} {β : Bk} {mk : Int → Int}
theorem MV.L (h : MV ct b β mk) : LK ct := h.1.1
theorem MV.hb (h : MV ct b β mk) : bkN b := h.1.2.1
theorem MV.h0 (h : MV ct b β mk) : ct 70 0 = b := h.1.2.2
theorem MV.wf (h : MV ct b β mk) : bkWf ct b := h.2.1.1
theorem MV.ask (h : MV ct b β mk) : askOk (ct 69) := h.2.1.2
theorem MV.mn (h : MV ct b β mk) : mvMin ct b := h.2.2.1.1
theorem MV.cl (h : MV ct b β mk) : mvCl ct b := h.2.2.1.2.1
theorem MV.tu (h : MV ct b β mk) : mvTurn ct b := h.2.2.1.2.2
theorem MV.la (h : MV ct b β mk) : (ct 70 6 = 0 ∨ ct 70 6 = 1) ∧ (ct 70 6 = 0 → noLast ct b) := h.2.2.2.1
theorem MV.rg (h : MV ct b β mk) : 0 ≤ ct b 2 ∧ ct b 2 ≤ 6 ∧ 0 ≤ ct b 3 ∧ ct b 3 ≤ 8 := h.2.2.2.2.1
theorem MV.mr (h : MV ct b β mk) : ∀ m, 0 ≤ m → m < 6 → 0 ≤ ct 71 m ∧ ct 71 m ≤ 9 := h.2.2.2.2.2.1
theorem MV.bk (h : MV ct b β mk) : bkOf ct b = β := h.2.2.2.2.2.2.1
theorem MV.mks (h : MV ct b β mk) : ∀ m, 0 ≤ m → m < β.n 2 → ct 71 m = mk m := h.2.2.2.2.2.2.2
theorem MV.n (h : MV ct b β mk) (i : Int) : ct b i = β.n i := by rw [← h.bk]; rfl
theorem MV.sy (h : MV ct b β mk) : 0 ≤ β.n 3 ∧ β.n 3 ≤ 8 := by rw [← h.n]; exact ⟨h.rg.2.2.1, h.rg.2.2.2⟩
theorem MV.me (h : MV ct b β mk) : 0 ≤ β.n 2 ∧ β.n 2 ≤ 6 := by rw [← h.n]; exact ⟨h.rg.1, h.rg.2.1⟩
theorem MV.ms (h : MV ct b β mk) (st : Int) : mset ct b st = msN β mk st := by
  unfold mset msN
  congr 1
  apply bset_cong
  intro i _
  unfold pmB canB
  rw [← h.bk]
  show _ = (decide (((i / 8 : Nat) : Int) < ct b 2) && decide (((i % 8 : Nat) : Int) < ct b 3) && wouldB ct b st _ _ _)
  by_cases h1 : ((i / 8 : Nat) : Int) < ct b 2
  · rw [h.mks _ (by omega) (by rw [← h.n]; exact h1)]
  · rw [decide_eq_false h1]
    rfl
theorem bkN_far {b : Int} (h : bkN b) : ∀ k, 0 ≤ k → k ≤ 4 → b + k ∉ ([68, 69, 72, 73, 75, 76] : List Int) ∧ b + k ∉ ([70, 71, 72] : List Int) := by
  intro k h0 h1
  rcases h with rfl | rfl <;> simp <;> omega
theorem bkOf_eq (h0 : c b = ct b) (h2 : c (b + 2) = ct (b + 2)) (h3 : c (b + 3) = ct (b + 3)) (h4 : c (b + 4) = ct (b + 4)) : bkOf c b = bkOf ct b := by
  unfold bkOf
  rw [h0, h2, h3]
  have e1 : wouldB c b = wouldB ct b := by
    funext a b' c' d
    exact wouldB_eq h0 h4 _ _ _ _
  have e2 : closesB c b = closesB ct b := by
    funext a
    exact closesB_eq h0 h4 _
  rw [e1, e2]
def MVt (ct c : mbCt) (b : Int) (β : Bk) (mk : Int → Int) : Prop := eqBut [68, 69, 72, 73, 75, 76] ct c ∧ MV c b β mk
theorem MV.mv (h : MV ct b β mk) (e : eqBut [68, 69, 72, 73, 75, 76] ct c) (a : askOk (c 69)) (m : mvMin c b) (k : mvCl c b) : MVt ct c b β mk := by
  have q := bkN_far h.hb
  have e0 : c b = ct b := e b (by have := (q 0 (by omega) (by omega)).1; rw [Int.add_zero] at this; exact this)
  have e2 : c (b + 2) = ct (b + 2) := e _ (q 2 (by omega) (by omega)).1
  have e3 : c (b + 3) = ct (b + 3) := e _ (q 3 (by omega) (by omega)).1
  have e4 : c (b + 4) = ct (b + 4) := e _ (q 4 (by omega) (by omega)).1
  have e70 : c 70 = ct 70 := e 70 (by decide)
  have e71 : c 71 = ct 71 := e 71 (by decide)
  have e74 : c 74 = ct 74 := e 74 (by decide)
  refine ⟨e, ⟨h.L.eb e rfl, h.hb, by rw [e70]; exact h.h0⟩, ⟨bkWf_eq e0 e4 h.wf, a⟩, ⟨m, k, ?_⟩, ⟨by rw [e70]; exact h.la.1, ?_⟩, by rw [e0]; exact h.rg, by rw [e71]; exact h.mr, by rw [bkOf_eq e0 e2 e3 e4]; exact h.bk, by rw [e71]; exact h.mks⟩
  · have t := h.tu
    unfold mvTurn at *
    rw [e0, e2, e3, e74]
    exact t
  · have t := h.la.2
    unfold noLast at *
    rw [e70, e0, e4]
    exact t
theorem MVt.tr {c2 : mbCt} (h : MVt ct c b β mk) (h2 : MVt c c2 b β mk) : MVt ct c2 b β mk := ⟨h.1.tr h2.1, h2.2⟩
theorem MV.rf (h : MV ct b β mk) : MVt ct ct b β mk := ⟨eqBut.rf, h⟩
theorem mvMin_eq (h1 : c b = ct b) (h2 : c (b + 4) = ct (b + 4)) (h3 : c 71 = ct 71) (h4 : c 72 = ct 72) (h : mvMin ct b) : mvMin c b := by
  intro k k0 k1
  rw [h4, mset_eq h1 h2 (fun m _ _ => by rw [h3])]
  exact h k k0 k1
theorem mvCl_eq (h1 : c b = ct b) (h2 : c (b + 4) = ct (b + 4)) (h4 : c 73 = ct 73) (h : mvCl ct b) : mvCl c b := by
  intro k k0 k1
  rw [h4, closesB_eq h1 h2]
  exact h k k0 k1
end
section
variable (d : Nat) (sh : mbSh) (ct : mbCt) {b : Int} {β : Bk} {mk : Int → Int}
theorem m_minutesAt {st : Int} (S : SH sh) (M : MV ct b β mk) (h0 : 0 ≤ st) (h1 : st < 700) : Mt YX4_minutesAt (d + 2) [.inr (.inr 70), .inl st] sh sh ct (pL fun r c => r = msN β mk st ∧ MVt ct c b β mk) := by
  refine Mt.imp (c_minutesAt d sh ct S M.L M.hb M.h0 M.wf M.ask M.mn h0 h1 M.la.1 M.la.2 M.rg.1 M.rg.2.1 M.rg.2.2.1 M.rg.2.2.2 (fun m m0 m1 => M.mr m m0 (by have := M.rg; omega))) ?_
  rintro r c ⟨x, rfl, rfl, he, ha, hm⟩
  have q := bkN_far M.hb
  have e' : eqBut [68, 69, 72, 73, 75, 76] ct c := he.mono (by decide)
  have e0 : c b = ct b := e' b (by have := (q 0 (by omega) (by omega)).1; rw [Int.add_zero] at this; exact this)
  have e4 : c (b + 4) = ct (b + 4) := e' _ (q 4 (by omega) (by omega)).1
  exact ⟨_, rfl, M.ms st, M.mv e' ha hm (mvCl_eq e0 e4 (he 73 (by decide)) M.cl)⟩
theorem m_closes {st : Int} (S : SH sh) (M : MV ct b β mk) (h0 : 0 ≤ st) (h1 : st < 700) : Mt YX4_closes (d + 2) [.inr (.inr 70), .inl st] sh sh ct (pI fun r c => r = b01 (β.cl st = true) ∧ MVt ct c b β mk) := by
  refine Mt.imp (c_closes d sh ct S M.L M.hb M.h0 M.wf M.ask M.cl h0 h1) ?_
  rintro r c ⟨x, rfl, rfl, he, ha, hm⟩
  have q := bkN_far M.hb
  have e' : eqBut [68, 69, 72, 73, 75, 76] ct c := he.mono (by decide)
  have e0 : c b = ct b := e' b (by have := (q 0 (by omega) (by omega)).1; rw [Int.add_zero] at this; exact this)
  have e4 : c (b + 4) = ct (b + 4) := e' _ (q 4 (by omega) (by omega)).1
  refine ⟨_, rfl, ?_, M.mv e' ha (mvMin_eq e0 e4 (he 71 (by decide)) (he 72 (by decide)) M.mn) hm⟩
  rw [← M.bk]
  rfl
theorem m_isEnd {st tone : Int} (S : SH sh) (M : MV ct b β mk) (h0 : 0 ≤ st) (h1 : st < 700) (t0 : -1 ≤ tone) (t1 : tone ≤ 10) : Mt YX4_isEnd (d + 3) [.inr (.inr 70), .inl st, .inl tone] sh sh ct (pI fun r c => r = b01 (enB β st tone = true) ∧ MVt ct c b β mk) := by
  refine Mt.imp (c_isEnd d sh ct S M.L M.hb M.h0 M.wf M.ask M.cl h0 h1 t0 t1) ?_
  rintro r c ⟨x, rfl, rfl, he, ha, hm⟩
  have q := bkN_far M.hb
  have e' : eqBut [68, 69, 72, 73, 75, 76] ct c := he.mono (by decide)
  have e0 : c b = ct b := e' b (by have := (q 0 (by omega) (by omega)).1; rw [Int.add_zero] at this; exact this)
  have e4 : c (b + 4) = ct (b + 4) := e' _ (q 4 (by omega) (by omega)).1
  refine ⟨_, rfl, ?_, M.mv e' ha (mvMin_eq e0 e4 (he 71 (by decide)) (he 72 (by decide)) M.mn) hm⟩
  rw [← M.bk]
  rfl
theorem m_behind {st m s : Int} (S : SH sh) (M : MV ct b β mk) (h0 : 0 ≤ st) (h1 : st < 700) (s0 : 0 ≤ s) (s1 : s < β.n 3) : Mt YX4_behind d [.inr (.inr 70), .inl st, .inl m, .inl s] sh sh ct (pI fun r c => r = nxB β st m s ∧ c = ct) := by
  refine Mt.imp (c_behind d sh ct S M.L M.tu h0 h1 s0 (by rw [M.n]; exact s1) M.rg.2.2.2) ?_
  rintro r c ⟨x, rfl, rfl, rfl⟩
  refine ⟨_, rfl, ?_, rfl⟩
  rw [← M.bk]
  rfl
theorem MV.tn {st : Int} (M : MV ct b β mk) (h0 : 0 ≤ st) (h1 : st < 700) {s : Int} (s0 : 0 ≤ s) (s1 : s < β.n 3) (m : Int) : ct 74 (100 * s + st / 7) + m = nxB β st m s := by
  have h := M.tu s (st / 7) s0 (by rw [M.n]; exact s1) (by omega) (by omega)
  rw [show 100 * s + st / 7 = s * 100 + st / 7 by omega, h]
  unfold nxB
  rw [← M.bk]
  show (c9 (st / 7 / 10 + ct (b + 2) s) * 10 + c9 (st / 7 % 10 + ct (b + 3) s)) * 7 + m = (c9 (st / 70 + ct (b + 2) s) * 10 + c9 (st / 7 % 10 + ct (b + 3) s)) * 7 + m
  rw [show st / 7 / 10 = st / 70 by omega]
theorem m_branch {st : Int} {Z : Nat} (S : SH sh) (M : MV ct b β mk) (h0 : 0 ≤ st) (h1 : st < 700) (hZ : Z < 9223372036854775808) (hs : ∀ i, i < 48 → Z.testBit i = true → ((i % 8 : Nat) : Int) < β.n 3) : Mt YX4_branch (d + 1) [.inr (.inr 70), .inl st, .inr (.inl Z)] sh sh ct (pI fun r c => r = (brL Z 48).length ∧ rowIs (c 75) mnt (brL Z 48) ∧ rowIs (c 76) (fun i => nxB β st (i / 8 : Nat) (i % 8 : Nat)) (brL Z 48) ∧ MVt ct c b β mk) := by
  refine Mt.imp (c_branch d sh ct S M.L h0 h1 hZ) ?_
  rintro r c ⟨x, rfl, rfl, he, hr, hq⟩
  have q := bkN_far M.hb
  have e' : eqBut [68, 69, 72, 73, 75, 76] ct c := he.mono (by decide)
  have e0 : c b = ct b := e' b (by have := (q 0 (by omega) (by omega)).1; rw [Int.add_zero] at this; exact this)
  have e4 : c (b + 4) = ct (b + 4) := e' _ (q 4 (by omega) (by omega)).1
  refine ⟨_, rfl, rfl, hr, ?_, M.mv e' (by rw [he 69 (by decide)]; exact M.ask) (mvMin_eq e0 e4 (he 71 (by decide)) (he 72 (by decide)) M.mn) (mvCl_eq e0 e4 (he 73 (by decide)) M.cl)⟩
  intro j hj
  have hm := brL_mem.mp (List.getElem_mem hj)
  rw [hq j hj]
  exact M.tn ct h0 h1 (by omega) (hs _ hm.1 hm.2) _
def hdC (ct : mbCt) (b : Int) (β : Bk) (mk : Int → Int) (c : mbCt) : Prop := eqBut [70, 71, 72] ct c ∧ MV c b β (ct 13) ∧ (∀ k, k ≠ 7 → c 70 k = ct 70 k) ∧ ((c 70 7 = ct 70 7 ∧ ∀ m, 0 ≤ m → m < β.n 2 → mk m = ct 13 m) ∨ c 70 7 = ct 70 7 + 1)
theorem m_heed (S : SH sh) (M : MV ct b β mk) (h13 : ∀ m, 0 ≤ m → m < 6 → 0 ≤ ct 13 m ∧ ct 13 m ≤ 9) : Mt YX4_heed (d + 1) [.inr (.inr 70), .inr (.inr 13)] sh sh ct (pN fun c => hdC ct b β mk c) := by
  refine Mt.imp (c_heed d sh ct S M.L M.hb M.h0 M.rg.1 M.rg.2.1 (fun m m0 m1 => ⟨M.mr m m0 m1, h13 m m0 m1⟩)) ?_
  rintro r c ⟨rfl, he, h70, h71, hor⟩
  have q := bkN_far M.hb
  have e0 : c b = ct b := he b (by have := (q 0 (by omega) (by omega)).2; rw [Int.add_zero] at this; exact this)
  have e2 : c (b + 2) = ct (b + 2) := he _ (q 2 (by omega) (by omega)).2
  have e3 : c (b + 3) = ct (b + 3) := he _ (q 3 (by omega) (by omega)).2
  have e4 : c (b + 4) = ct (b + 4) := he _ (q 4 (by omega) (by omega)).2
  have rg := M.rg
  have hlk : LK c := by
    refine M.L.but he ?_
    intro a ha k v hv
    simp at ha
    rcases ha with rfl | rfl | rfl
    · by_cases h7 : k = 7
      · subst h7
        cases hv
      · rw [h70 k h7]
        exact M.L _ _ _ hv
    · rw [lkF_none rfl] at hv
      cases hv
    · rw [lkF_none rfl] at hv
      cases hv
  have c71 : ∀ m, 0 ≤ m → m < ct b 2 → c 71 m = ct 13 m := by
    intro m m0 m1
    rw [h71]
    unfold cp0
    rw [if_pos ⟨m0, m1⟩]
  refine ⟨rfl, he, ⟨⟨hlk, M.hb, by rw [h70 0 (by decide)]; exact M.h0⟩, ⟨bkWf_eq e0 e4 M.wf, by rw [he 69 (by decide)]; exact M.ask⟩, ⟨?_, mvCl_eq e0 e4 (he 73 (by decide)) M.cl, ?_⟩, ⟨by rw [h70 6 (by decide)]; exact M.la.1, ?_⟩, by rw [e0]; exact M.rg, ?_, by rw [bkOf_eq e0 e2 e3 e4]; exact M.bk, ?_⟩, h70, ?_⟩
  · rcases hor with ⟨ha, h72, -⟩ | ⟨-, hz, -⟩
    · intro k k0 k1
      rw [h72, mset_eq e0 e4 (fun m m0 m1 => by rw [c71 m m0 m1]; exact (ha m m0 m1).symm)]
      exact M.mn k k0 k1
    · intro k k0 k1
      exact Or.inl (hz k k0 k1)
  · have t := M.tu
    unfold mvTurn at *
    rw [e0, e2, e3, he 74 (by decide)]
    exact t
  · have t := M.la.2
    unfold noLast at *
    rw [h70 6 (by decide), e0, e4]
    exact t
  · intro m m0 m1
    rw [h71]
    unfold cp0
    split
    · exact h13 m m0 m1
    · exact M.mr m m0 m1
  · intro m m0 m1
    exact c71 m m0 (by rw [M.n]; exact m1)
  · rcases hor with ⟨ha, -, h7⟩ | ⟨-, -, h7⟩
    · refine Or.inl ⟨h7, fun m m0 m1 => ?_⟩
      rw [← M.mks m m0 m1]
      exact ha m m0 (by rw [M.n]; exact m1)
    · exact Or.inr h7
end
