/-! MinuteBook.book -/
theorem dX11_book_0 : decode cX11_book 0 = .ok (.iload_n 1, 1) := by decide +kernel
theorem dX11_book_1 : decode cX11_book 1 = .ok (.ifCond .lt 11, 3) := by decide +kernel
theorem dX11_book_4 : decode cX11_book 4 = .ok (.iload_n 1, 1) := by decide +kernel
theorem dX11_book_5 : decode cX11_book 5 = .ok (.aload_n 0, 1) := by decide +kernel
theorem dX11_book_6 : decode cX11_book 6 = .ok (.getfield 13, 3) := by decide +kernel
theorem dX11_book_9 : decode cX11_book 9 = .ok (.if_icmp .le 6, 3) := by decide +kernel
theorem dX11_book_12 : decode cX11_book 12 = .ok (.bipush (-3), 2) := by decide +kernel
theorem dX11_book_14 : decode cX11_book 14 = .ok (.ireturn, 1) := by decide +kernel
theorem dX11_book_15 : decode cX11_book 15 = .ok (.aload_n 0, 1) := by decide +kernel
theorem dX11_book_16 : decode cX11_book 16 = .ok (.iconst 0, 1) := by decide +kernel
theorem dX11_book_17 : decode cX11_book 17 = .ok (.putfield 13, 3) := by decide +kernel
theorem dX11_book_20 : decode cX11_book 20 = .ok (.aload_n 0, 1) := by decide +kernel
theorem dX11_book_21 : decode cX11_book 21 = .ok (.getfield 63, 3) := by decide +kernel
theorem dX11_book_24 : decode cX11_book 24 = .ok (.iload_n 1, 1) := by decide +kernel
theorem dX11_book_25 : decode cX11_book 25 = .ok (.aload_n 0, 1) := by decide +kernel
theorem dX11_book_26 : decode cX11_book 26 = .ok (.getfield 24, 3) := by decide +kernel
theorem dX11_book_29 : decode cX11_book 29 = .ok (.invokevirtual 112, 3) := by decide +kernel
theorem dX11_book_32 : decode cX11_book 32 = .ok (.aload_n 0, 1) := by decide +kernel
theorem dX11_book_33 : decode cX11_book 33 = .ok (.getfield 63, 3) := by decide +kernel
theorem dX11_book_36 : decode cX11_book 36 = .ok (.getfield 116, 3) := by decide +kernel
theorem dX11_book_39 : decode cX11_book 39 = .ok (.ifCond .eq 14, 3) := by decide +kernel
theorem dX11_book_42 : decode cX11_book 42 = .ok (.bipush (-30), 2) := by decide +kernel
theorem dX11_book_44 : decode cX11_book 44 = .ok (.aload_n 0, 1) := by decide +kernel
theorem dX11_book_45 : decode cX11_book 45 = .ok (.getfield 63, 3) := by decide +kernel
theorem dX11_book_48 : decode cX11_book 48 = .ok (.getfield 116, 3) := by decide +kernel
theorem dX11_book_51 : decode cX11_book 51 = .ok (.isub, 1) := by decide +kernel
theorem dX11_book_52 : decode cX11_book 52 = .ok (.ireturn, 1) := by decide +kernel
theorem dX11_book_53 : decode cX11_book 53 = .ok (.aload_n 0, 1) := by decide +kernel
theorem dX11_book_54 : decode cX11_book 54 = .ok (.getfield 20, 3) := by decide +kernel
theorem dX11_book_57 : decode cX11_book 57 = .ok (.astore_n 2, 1) := by decide +kernel
theorem dX11_book_58 : decode cX11_book 58 = .ok (.aload_n 0, 1) := by decide +kernel
theorem dX11_book_59 : decode cX11_book 59 = .ok (.aload_n 0, 1) := by decide +kernel
theorem dX11_book_60 : decode cX11_book 60 = .ok (.getfield 24, 3) := by decide +kernel
theorem dX11_book_63 : decode cX11_book 63 = .ok (.putfield 20, 3) := by decide +kernel
theorem dX11_book_66 : decode cX11_book 66 = .ok (.aload_n 0, 1) := by decide +kernel
theorem dX11_book_67 : decode cX11_book 67 = .ok (.aload_n 2, 1) := by decide +kernel
theorem dX11_book_68 : decode cX11_book 68 = .ok (.putfield 24, 3) := by decide +kernel
theorem dX11_book_71 : decode cX11_book 71 = .ok (.aload_n 0, 1) := by decide +kernel
theorem dX11_book_72 : decode cX11_book 72 = .ok (.getfield 30, 3) := by decide +kernel
theorem dX11_book_75 : decode cX11_book 75 = .ok (.aload_n 0, 1) := by decide +kernel
theorem dX11_book_76 : decode cX11_book 76 = .ok (.getfield 20, 3) := by decide +kernel
theorem dX11_book_79 : decode cX11_book 79 = .ok (.invokevirtual 119, 3) := by decide +kernel
theorem dX11_book_82 : decode cX11_book 82 = .ok (.aload_n 0, 1) := by decide +kernel
theorem dX11_book_83 : decode cX11_book 83 = .ok (.getfield 40, 3) := by decide +kernel
theorem dX11_book_86 : decode cX11_book 86 = .ok (.invokevirtual 123, 3) := by decide +kernel
theorem dX11_book_89 : decode cX11_book 89 = .ok (.aload_n 0, 1) := by decide +kernel
theorem dX11_book_90 : decode cX11_book 90 = .ok (.getfield 79, 3) := by decide +kernel
theorem dX11_book_93 : decode cX11_book 93 = .ok (.aload_n 0, 1) := by decide +kernel
theorem dX11_book_94 : decode cX11_book 94 = .ok (.getfield 20, 3) := by decide +kernel
theorem dX11_book_97 : decode cX11_book 97 = .ok (.invokevirtual 126, 3) := by decide +kernel
theorem dX11_book_100 : decode cX11_book 100 = .ok (.aload_n 0, 1) := by decide +kernel
theorem dX11_book_101 : decode cX11_book 101 = .ok (.getfield 20, 3) := by decide +kernel
theorem dX11_book_104 : decode cX11_book 104 = .ok (.getfield 129, 3) := by decide +kernel
theorem dX11_book_107 : decode cX11_book 107 = .ok (.ireturn, 1) := by decide +kernel
section
variable {sh : mbSh} {ct c : mbCt} {b : Int} {β : Bk} {s s2 : Sit} {q : Int} {N : Nat} {V : Int} {mk : Int → Int}
theorem MV.of2 (h : MV ct b β mk) (hL : LK c) (eb : ∀ x : Int, b ≤ x → x ≤ b + 4 → c x = ct x) (e : ∀ x : Int, 68 ≤ x → c x = ct x) : MV c b β mk := by
  have bb : b = 2 ∨ b = 7 := h.hb
  have e0 : c b = ct b := eb b (by omega) (by omega)
  have e2 : c (b + 2) = ct (b + 2) := eb _ (by omega) (by omega)
  have e3 : c (b + 3) = ct (b + 3) := eb _ (by omega) (by omega)
  have e4 : c (b + 4) = ct (b + 4) := eb _ (by omega) (by omega)
  have e70 : c 70 = ct 70 := e 70 (by decide)
  have e71 : c 71 = ct 71 := e 71 (by decide)
  have e74 : c 74 = ct 74 := e 74 (by decide)
  refine ⟨⟨hL, h.hb, by rw [e70]; exact h.h0⟩, ⟨bkWf_eq e0 e4 h.wf, by rw [e 69 (by decide)]; exact h.ask⟩, ⟨mvMin_eq e0 e4 e71 (e 72 (by decide)) h.mn, mvCl_eq e0 e4 (e 73 (by decide)) h.cl, ?_⟩, ⟨by rw [e70]; exact h.la.1, ?_⟩, by rw [e0]; exact h.rg, by rw [e71]; exact h.mr, by rw [bkOf_eq e0 e2 e3 e4]; exact h.bk, by rw [e71]; exact h.mks⟩
  · have t := h.tu
    unfold mvTurn at *
    rw [e0, e2, e3, e74]
    exact t
  · have t := h.la.2
    unfold noLast at *
    rw [e70, e0, e4]
    exact t
theorem CX.sit2 (X : CX sh ct b β s q N V) (hL : LK c) (h0 : c 0 2 = ct 0 2) (eb : ∀ x : Int, b ≤ x → x ≤ b + 4 → c x = ct x) (e : ∀ x : Int, 68 ≤ x → c x = ct x) (hs : sitC c 12 s2) (hB : sitB s2) (hcn : cnM β s2.2.2) : CX sh c b β s2 q N V := by
  have hq := X.qc
  obtain ⟨g0, gs, ⟨gB, gc, gbk⟩, ⟨mk, hK⟩, sq, hv, hV⟩ := X
  have e70 : c 70 = ct 70 := e 70 (by decide)
  have eq : c q = ct q := e q (by rcases hq with h | h <;> omega)
  exact ⟨by rw [h0]; exact g0, hs, ⟨hB, hcn, gbk⟩, ⟨mk, hK.1.of2 hL eb e, hK.2.1, hK.2.2.1.mv (e 77 (by decide)) eq (e 79 (by decide)) e70, hK.2.2.2.1.cg e70 (e 87 (by decide)) (e 88 (by decide)) (e 89 (by decide)), hK.2.2.2.2.cg (by rw [e70]) (fun x a b => e x (by omega))⟩, sq, by rw [e70]; exact hv, hV⟩
end
/-- the book β is the one that was read -/
def bkT (β : Bk) (a : PS × BS) : Prop := (∀ k, 0 ≤ k → k ≤ 5 → β.n k = a.2.1 k) ∧ (∀ s, 0 ≤ s → s < 8 → β.tt s = a.2.2.2.1 s ∧ β.ht s = a.2.2.2.2 s) ∧ ∃ lw lc, lawS a.1.2.2.2 (a.2.1 7) (a.2.1 8) lw ∧ lawS a.1.2.2.2 (a.2.1 9) (a.2.1 10) lc ∧ lawOk lw ∧ lawOk lc ∧ (∀ op ∈ lc, ¬ (-6 ≤ op ∧ op ≤ -4)) ∧ β.W = wouldL lw ∧ β.cl = closesL lc
def sitP (a : PS × BS) : Sit := ((a.2.1 0 * 10 + a.2.1 1) * 7 + 6, 0, a.2.2.1)
theorem codeL_is {f : Int → Int} : ∀ (l : List Int) (i : Int), (∀ k : Nat, k < l.length → f (i + k) = l.getD k 0) → codeL f i l.length = l
  | [], _, _ => rfl
  | x :: r, i, h => by
    show f i :: codeL f (i + 1) r.length = x :: r
    rw [codeL_is r (i + 1) (fun k hk => ?_)]
    · have := h 0 (by simp)
      rw [show i + ((0 : Nat) : Int) = i by omega] at this
      rw [this]
      rfl
    · have := h (k + 1) (by simp; omega)
      rw [show i + ((k + 1 : Nat) : Int) = i + 1 + (k : Int) by omega] at this
      rw [this]
      rfl
theorem RB.told {c : mbCt} {b T : Int} {K Pl : Int → Int} {a : PS × BS} (R : RB c b T K Pl a) (hI : bkRi T a) (hw : a.1.2.1 = 0) : bkT (bkOf c b) a ∧ bkWf c b ∧ bkZ c b ∧ bkB (bkOf c b) ∧ cnM (bkOf c b) a.2.2.1 ∧ sitB (sitP a) := by
  obtain ⟨D, hM⟩ := R
  obtain ⟨m1, m2, m3⟩ := hM hw
  obtain ⟨⟨f0, f1, f2, f3, f4, f5⟩, fm, fs, lw, lc, g1, g2, g3, g4, g5⟩ := hI.2 hw
  obtain ⟨hlen, hcd⟩ := D.2.2.2.2.2.2 hw
  have h900 := D.2.2.2.2.1.1
  have i900 := hI.1.1
  have hT := D.kd.1
  have law : ∀ {u v : Int} {l : List Int}, lawS a.1.2.2.2 u v l → codeL (c (b + 4)) u (v - u).toNat = l ∧ 0 ≤ u ∧ u ≤ v ∧ v ≤ c b 6 ∧ (u = v ↔ l = []) := by
    intro u v l h
    obtain ⟨a1, a2, a3, a4⟩ := h
    have hv : (v - u).toNat = l.length := by omega
    refine ⟨?_, a1, by omega, by omega, ?_⟩
    · rw [hv]
      refine codeL_is l u (fun k hk => ?_)
      have := hcd (u.toNat + k) (by omega)
      rw [show ((u.toNat + k : Nat) : Int) = u + (k : Int) by omega] at this
      rw [this]
      exact a4 k hk
    · constructor
      · intro z
        exact List.eq_nil_of_length_eq_zero (by omega)
      · intro z
        rw [z] at a2
        simp at a2
        omega
  have e0 : ∀ k, 0 ≤ k → k ≤ 10 → k ≠ 6 → c b k = a.2.1 k := m1
  have e7 := e0 7 (by decide) (by decide) (by decide)
  have e8 := e0 8 (by decide) (by decide) (by decide)
  have e9 := e0 9 (by decide) (by decide) (by decide)
  have e10 := e0 10 (by decide) (by decide) (by decide)
  obtain ⟨w1, w2, w3, w4, w5⟩ := law g1
  obtain ⟨v1, v2, v3, v4, v5⟩ := law g2
  refine ⟨⟨fun k k0 k1 => e0 k k0 (by omega) (by omega), m3, lw, lc, g1, g2, g3, g4, g5, ?_, ?_⟩, ?_, ?_, ?_, fun m hm => ?_, ?_⟩
  · funext st who mk sy
    show wouldB c b st who mk sy = _
    unfold wouldB wouldL
    rw [e7, e8, w1]
    exact decide_eq_decide.mpr (or_congr w5 Iff.rfl)
  · funext st
    show closesB c b st = _
    unfold closesB closesL
    rw [e9, e10, v1]
    by_cases h : lc = []
    · rw [if_pos (v5.mpr h), if_pos h]
    · rw [if_neg (fun z => h (v5.mp z)), if_neg h]
  · unfold bkWf wfL noAsk
    rw [e7, e8, e9, e10, w1, v1]
    refine ⟨⟨w2, w3, by omega, fun z => ?_⟩, v2, v3, by omega, fun z => ⟨?_, g5⟩⟩
    · rcases g3 with h | h
      · exact absurd (w5.mpr h) z
      · exact h
    · rcases g4 with h | h
      · exact absurd (v5.mpr h) z
      · exact h
  · unfold bkZ
    rw [e8, e10]
    exact ⟨h900, w4, v4⟩
  · have z0 := e0 0 (by decide) (by decide) (by decide)
    have z1 := e0 1 (by decide) (by decide) (by decide)
    have z2 := e0 2 (by decide) (by decide) (by decide)
    have z3 := e0 3 (by decide) (by decide) (by decide)
    have z4 := e0 4 (by decide) (by decide) (by decide)
    have z5 := e0 5 (by decide) (by decide) (by decide)
    refine ⟨?_, ?_, ?_, ?_, ?_, ?_, fun s s0 s1 => ?_⟩
    · show 0 ≤ c b 0 ∧ c b 0 ≤ 9; omega
    · show 0 ≤ c b 1 ∧ c b 1 ≤ 9; omega
    · show 0 ≤ c b 2 ∧ c b 2 ≤ 6; omega
    · show 0 ≤ c b 3 ∧ c b 3 ≤ 8; omega
    · show 0 ≤ c b 4 ∧ c b 4 ≤ 10; omega
    · show 0 ≤ c b 5 ∧ c b 5 ≤ 1000; omega
    · show (-9 ≤ c (b + 2) s ∧ c (b + 2) s ≤ 9) ∧ (-9 ≤ c (b + 3) s ∧ c (b + 3) s ≤ 9)
      rw [(m3 s s0 s1).1, (m3 s s0 s1).2]
      exact fs s
  · refine fm.2 m (fun z => hm ⟨z.1, ?_⟩)
    show m < c b 2
    rw [e0 2 (by decide) (by decide) (by decide)]
    exact z.2
  · refine ⟨?_, fun m m0 m1 => fm.1 m⟩
    show 0 ≤ (a.2.1 0 * 10 + a.2.1 1) * 7 + 6 ∧ (a.2.1 0 * 10 + a.2.1 1) * 7 + 6 < 700
    omega
section
variable (d : Nat) (sh : mbSh) (ct : mbCt) {b o : Int} {β : Bk} {s : Sit} {n : Int} {pl : Int → Sit} {q : Int} {N : Nat} {V : Int} {x : Int}
theorem x_book (S : SH sh) (C : CP sh ct b β s n pl q N V) (hV : V + 1 < 900000) (ho : (b = 2 ∧ o = 7) ∨ (b = 7 ∧ o = 2)) (h3 : ct 0 3 = o) (hR : shR ct o) (hT : txB (ct 1)) (t0 : 0 ≤ ct 0 1) (t1 : ct 0 1 ≤ 900) (hx : i32 x) : Mt YX11_book (d + 29) [.inr (.inr 0), .inl x] sh sh ct (pI fun r c => (¬ (0 ≤ x ∧ x ≤ ct 0 1) ∧ r = -3 ∧ c = ct) ∨ ((0 ≤ x ∧ x ≤ ct 0 1) ∧ ∃ K Pl E T, TS (ct 1) x K Pl E T ∧ c 0 1 = 0 ∧ (c 64 0 = (textP T K Pl).1.2.1 ∧ c 64 1 = (if (textP T K Pl).1.2.1 = 0 then -1 else (textP T K Pl).1.2.2.1)) ∧ shR c o ∧ (((textP T K Pl).1.2.1 ≠ 0 ∧ r = -30 - (textP T K Pl).1.2.1 ∧ CP sh c b β s n pl q N V ∧ c 0 3 = o) ∨ ((textP T K Pl).1.2.1 = 0 ∧ r = (textP T K Pl).2.1 5 ∧ (∃ γ, bkT γ (textP T K Pl) ∧ CP sh c o γ (sitP (textP T K Pl)) 0 pl q N (V + 1)) ∧ bkZ c o ∧ c 0 3 = b)) ∧ eqBut [0, 64, 65, 66, o, o + 1, o + 2, o + 3, o + 4, 12, 13, 16, 70, 72, 73, 74] ct c)) := by
  obtain ⟨X, P⟩ := C
  have L := X.L
  have hoo : o = 2 ∨ o = 7 := by omega
  have wx : w32 x = x := w32_id hx.1 hx.2
  have wt : w32 (ct 0 1) = ct 0 1 := w32_id (by omega) (by omega)
  generalize hP : (pI fun r c => (¬ (0 ≤ x ∧ x ≤ ct 0 1) ∧ r = -3 ∧ c = ct) ∨ ((0 ≤ x ∧ x ≤ ct 0 1) ∧ ∃ K Pl E T, TS (ct 1) x K Pl E T ∧ c 0 1 = 0 ∧ (c 64 0 = (textP T K Pl).1.2.1 ∧ c 64 1 = (if (textP T K Pl).1.2.1 = 0 then -1 else (textP T K Pl).1.2.2.1)) ∧ shR c o ∧ (((textP T K Pl).1.2.1 ≠ 0 ∧ r = -30 - (textP T K Pl).1.2.1 ∧ CP sh c b β s n pl q N V ∧ c 0 3 = o) ∨ ((textP T K Pl).1.2.1 = 0 ∧ r = (textP T K Pl).2.1 5 ∧ (∃ γ, bkT γ (textP T K Pl) ∧ CP sh c o γ (sitP (textP T K Pl)) 0 pl q N (V + 1)) ∧ bkZ c o ∧ c 0 3 = b)) ∧ eqBut [0, 64, 65, 66, o, o + 1, o + 2, o + 3, o + 4, 12, 13, 16, 70, 72, 73, 74] ct c)) = Po
  have no : ¬ (0 ≤ x ∧ x ≤ ct 0 1) → G (mkK YX11_book (d + 29) sh sh Po) 12 [some (.inr (.inr 0)), some (.inl x), none] [] sh ct := by
    intro h
    refine g_bipush (q := 14) dX11_book_12 (by decide +kernel) rfl ?_
    refine g_ireturn dX11_book_14 rfl ?_
    rw [← hP]
    exact ⟨_, rfl, Or.inl ⟨h, rfl, rfl⟩⟩
  refine Mt.of rfl (Nat.le_of_ble_eq_true rfl) ?_
  show G _ 0 [some (.inr (.inr 0)), some (.inl x), none] [] sh ct
  refine g_iload_n (q := 1) dX11_book_0 rfl rfl ?_
  refine g_if_lt (q := 4) (tg := 12) dX11_book_1 (by decide) rfl (fun c_1 => ?_) (fun c_1 => ?_)
  · rw [wx] at c_1
    exact no (by omega)
  · rw [wx] at c_1
    refine g_iload_n (q := 5) dX11_book_4 rfl rfl ?_
    refine g_aload_n (q := 6) dX11_book_5 rfl rfl ?_
    refine g_getI (q := 9) (kI := 1) fX11_13 (by first | assumption | exact S.at _ rfl) dX11_book_6 rfl rfl ?_
    refine g_icmp_le (q := 12) (tg := 15) dX11_book_9 (by decide) rfl (fun c_9 => ?_) (fun c_9 => ?_)
    · rw [wx, wt] at c_9
      have hin : 0 ≤ x ∧ x ≤ ct 0 1 := by omega
      have La : LK (wr ct 0 1 0) := L.wr rfl
      have ea : ∀ y, y ≠ 0 → wr ct 0 1 0 y = ct y := fun y hy => by funext j; exact wr_na hy
      have e0 : ∀ k, k ≠ 1 → wr ct 0 1 0 0 k = ct 0 k := fun k hk => wr_nk hk
      have e01 : wr ct 0 1 0 0 1 = 0 := wr_eq
      refine g_aload_n (q := 16) dX11_book_15 rfl rfl ?_
      refine g_iconst (q := 17) dX11_book_16 rfl ?_
      refine g_putI (q := 20) (kI := 1) fX11_13 (by first | assumption | exact S.at _ rfl) dX11_book_17 rfl rfl ?_
      generalize wr ct 0 1 0 = c1 at La ea e0 e01
      have h31 : c1 0 3 = o := by rw [e0 3 (by decide)]; exact h3
      have h21 : c1 0 2 = b := by rw [e0 2 (by decide)]; exact X.1
      refine g_aload_n (q := 21) dX11_book_20 rfl rfl ?_
      refine g_getO (q := 24) (kI := 9) fX11_63 (by first | assumption | exact S.at _ rfl) dX11_book_21 rfl rfl (by first | assumption | exact L.at _ _ rfl | exact LK.at (by assumption) _ _ rfl | ((repeat first | rewrite [wr_na (by decide)] | rewrite [wr_nk (by decide)] | rewrite [wa_na (by decide)]); first | assumption | exact LK.at (by assumption) _ _ rfl) | exact rfl) ?_
      refine g_iload_n (q := 25) dX11_book_24 rfl rfl ?_
      refine g_aload_n (q := 26) dX11_book_25 rfl rfl ?_
      refine g_getO (q := 29) (kI := 3) fX11_24 (by first | assumption | exact S.at _ rfl) dX11_book_26 rfl rfl (by first | assumption | exact L.at _ _ rfl | exact LK.at (by assumption) _ _ rfl | ((repeat first | rewrite [wr_na (by decide)] | rewrite [wr_nk (by decide)] | rewrite [wa_na (by decide)]); first | assumption | exact LK.at (by assumption) _ _ rfl) | exact rfl) ?_
      refine g_callV (q := 32) lX11_112 mX6_readText nX6_readText rfl (r_readText d sh _ S La hoo (by rw [ea 1 (by decide)]; exact hT) (by unfold shR; rw [ea _ (by omega)]; exact hR) hin.1 (by omega)) (by first | assumption | exact S.at _ rfl) rfl rfl shLe.rf (rmOk.mk (by omega) (by first | exact shLe.rf | assumption)) (Nat.le_of_ble_eq_true rfl) dX11_book_29 rfl rfl (kN fun c2 hp => ?_)
      obtain ⟨K, Pl, E, T, hTS, R2, f2⟩ := hp
      rw [ea 1 (by decide)] at hTS
      have D2 := R2.1
      have L2 := D2.L
      have z0 : c2 0 = c1 0 := f2.2.2 0 (by simp; omega)
      obtain ⟨hkd, hK2⟩ := hTS.kd (by omega)
      have hI := textQ (Pl := Pl) hkd hK2
      have hf0 := D2.2.2.2.1.1
      have hf1 := D2.2.2.2.1.2
      have hwb := D2.2.2.2.2.2.1
      have oth : ∀ y, y ∉ [0, 64, 65, 66, o, o + 1, o + 2, o + 3, o + 4] → c2 y = ct y := fun y hy => by
        simp at hy
        rw [f2.2.2 y (by simp; omega), ea y (by omega)]
      have h22 : c2 0 2 = b := by rw [z0]; exact h21
      have h32 : c2 0 3 = o := by rw [z0]; exact h31
      have hR2 : shR c2 o := D2.2.2.2.2.1.2
      generalize hA : textP T K Pl = A at R2 hI hf0 hf1 hwb
      refine g_aload_n (q := 33) dX11_book_32 rfl rfl ?_
      refine g_getO (q := 36) (kI := 9) fX11_63 (by first | assumption | exact S.at _ rfl) dX11_book_33 rfl rfl (by first | assumption | exact L.at _ _ rfl | exact LK.at (by assumption) _ _ rfl | ((repeat first | rewrite [wr_na (by decide)] | rewrite [wr_nk (by decide)] | rewrite [wa_na (by decide)]); first | assumption | exact LK.at (by assumption) _ _ rfl) | exact rfl) ?_
      refine g_getI (q := 39) (kI := 0) fX11_116 (by first | assumption | exact S.at _ rfl) dX11_book_36 rfl rfl ?_
      rw [hf0]
      refine g_if_eq (q := 42) (tg := 53) dX11_book_39 (by decide) rfl (fun c_39 => ?_) (fun c_39 => ?_)
      · rw [w32_id (x := A.1.2.1) (by omega) (by omega)] at c_39
        obtain ⟨tB, tW, tZ, tk, tn, ts⟩ := R2.told hI c_39
        refine g_aload_n (q := 54) dX11_book_53 rfl rfl ?_
        refine g_getO (q := 57) (kI := 2) fX11_20 (by first | assumption | exact S.at _ rfl) dX11_book_54 rfl rfl h22 ?_
        refine s_astore_n_3_2 (q := 58) dX11_book_57 rfl rfl rfl ?_
        refine g_aload_n (q := 59) dX11_book_58 rfl rfl ?_
        refine g_aload_n (q := 60) dX11_book_59 rfl rfl ?_
        refine g_getO (q := 63) (kI := 3) fX11_24 (by first | assumption | exact S.at _ rfl) dX11_book_60 rfl rfl h32 ?_
        refine g_putO (q := 66) (kI := 2) fX11_20 (by first | assumption | exact S.at _ rfl) dX11_book_63 rfl rfl ?_
        refine g_aload_n (q := 67) dX11_book_66 rfl rfl ?_
        refine g_aload_n (q := 68) dX11_book_67 rfl rfl ?_
        refine g_putO (q := 71) (kI := 3) fX11_24 (by first | assumption | exact S.at _ rfl) dX11_book_68 rfl rfl ?_
        have L3 : LK (wr (wr c2 0 2 o) 0 3 b) := (L2.wr rfl).wr rfl
        have e3 : ∀ y, y ≠ 0 → wr (wr c2 0 2 o) 0 3 b y = c2 y := fun y hy => by funext j; rw [wr_na hy, wr_na hy]
        have e302 : wr (wr c2 0 2 o) 0 3 b 0 2 = o := by rw [wr_nk (by decide), wr_eq]
        have e303 : wr (wr c2 0 2 o) 0 3 b 0 3 = b := wr_eq
        have e301 : wr (wr c2 0 2 o) 0 3 b 0 1 = 0 := by rw [wr_nk (by decide), wr_nk (by decide), z0]; exact e01
        generalize wr (wr c2 0 2 o) 0 3 b = c3 at L3 e3 e302 e303 e301
        refine g_aload_n (q := 72) dX11_book_71 rfl rfl ?_
        refine g_getO (q := 75) (kI := 4) fX11_30 (by first | assumption | exact S.at _ rfl) dX11_book_72 rfl rfl (by first | assumption | exact L.at _ _ rfl | exact LK.at (by assumption) _ _ rfl | ((repeat first | rewrite [wr_na (by decide)] | rewrite [wr_nk (by decide)] | rewrite [wa_na (by decide)]); first | assumption | exact LK.at (by assumption) _ _ rfl) | exact rfl) ?_
        refine g_aload_n (q := 76) dX11_book_75 rfl rfl ?_
        refine g_getO (q := 79) (kI := 2) fX11_20 (by first | assumption | exact S.at _ rfl) dX11_book_76 rfl rfl e302 ?_
        refine g_callV (q := 82) lX11_119 mX8_begin nX8_begin rfl (c_begin 0 sh _ (sitAt_n S L3 (Or.inl rfl)) (bkAt_b S L3 hoo)) (by first | assumption | exact S.at _ rfl) rfl rfl shLe.rf (rmOk.mk (by omega) (by first | exact shLe.rf | assumption)) (Nat.le_of_ble_eq_true rfl) dX11_book_79 rfl rfl (kN fun c4 hp => ?_)
        have e4 : ∀ y, y ≠ 12 → y ≠ 13 → c4 y = c3 y := fun y y0 y1 => by
          funext j
          rw [hp]
          unfold bgC
          rw [if_neg (by omega), if_neg (by omega), if_neg (by omega)]
        have L4 : LK c4 := by
          intro y k v hv
          by_cases hy : y = 12
          · subst hy
            by_cases k0 : k = 0
            · subst k0; cases hv
            · by_cases k1 : k = 1
              · subst k1; cases hv
              · rw [hp]
                unfold bgC
                rw [if_neg (by omega), if_neg (by omega), if_neg (by omega)]
                exact L3 _ _ _ hv
          · by_cases hy1 : y = 13
            · rw [hy1, lkF_none rfl k] at hv; cases hv
            · rw [e4 y hy hy1]; exact L3 _ _ _ hv
        have s4 : sitC c4 12 (sitP A) := by
          rw [hp]
          obtain ⟨m1, m2, -⟩ := R2.2 c_39
          refine ⟨?_, ?_, fun m m0 m1' => ?_⟩
          · unfold bgC
            rw [if_pos ⟨rfl, rfl⟩, e3 o (by omega), m1 0 (by decide) (by decide) (by decide), m1 1 (by decide) (by decide) (by decide)]
            rfl
          · unfold bgC
            rw [if_neg (by omega), if_pos ⟨rfl, rfl⟩]
            rfl
          · unfold bgC
            rw [if_neg (by omega), if_neg (by omega), if_pos ⟨rfl, m0, m1'⟩, e3 (o + 1) (by omega)]
            exact m2 m m0 m1'
        clear hp
        refine g_aload_n (q := 83) dX11_book_82 rfl rfl ?_
        refine g_getO (q := 86) (kI := 6) fX11_40 (by first | assumption | exact S.at _ rfl) dX11_book_83 rfl rfl (by first | assumption | exact L.at _ _ rfl | exact LK.at (by assumption) _ _ rfl | ((repeat first | rewrite [wr_na (by decide)] | rewrite [wr_nk (by decide)] | rewrite [wa_na (by decide)]); first | assumption | exact LK.at (by assumption) _ _ rfl) | exact rfl) ?_
        refine g_callV (q := 89) lX11_123 mX5_empty nX5_empty rfl (c_empty 0 sh _ (S.at 16 rfl)) (by first | assumption | exact S.at _ rfl) rfl rfl shLe.rf (rmOk.mk (by omega) (by first | exact shLe.rf | assumption)) (Nat.le_of_ble_eq_true rfl) dX11_book_86 rfl rfl (kN fun c5 hp => ?_)
        have L5 : LK c5 := by rw [hp]; exact L4.wr rfl
        have e5 : ∀ y, y ≠ 16 → c5 y = c4 y := fun y hy => by rw [hp]; funext j; exact wr_na hy
        have p161 : c5 16 1 = ct 16 1 := by rw [hp, wr_nk (by decide), e4 16 (by decide) (by decide), e3 16 (by decide), oth 16 (by simp; omega)]
        have p162 : c5 16 2 = 0 := by rw [hp]; exact wr_eq
        have eb5 : ∀ y, o ≤ y → y ≤ o + 4 → c5 y = c2 y := fun y a b => by rw [e5 y (by omega), e4 y (by omega) (by omega), e3 y (by omega)]
        have h05 : c5 0 = c3 0 := by rw [e5 0 (by decide), e4 0 (by decide) (by decide)]
        have o5 : bkOf c5 o = bkOf c2 o := bkOf_eq (eb5 o (by omega) (by omega)) (eb5 _ (by omega) (by omega)) (eb5 _ (by omega) (by omega)) (eb5 _ (by omega) (by omega))
        have s5 : sitC c5 12 (sitP A) := by
          refine ⟨?_, ?_, fun m m0 m1 => ?_⟩
          · rw [e5 12 (by decide)]; exact s4.1
          · rw [e5 12 (by decide)]; exact s4.2.1
          · rw [e5 (12 + 1) (by decide)]; exact s4.2.2 m m0 m1
        have h525 : c5 0 2 = o := by rw [h05]; exact e302
        clear hp
        refine g_aload_n (q := 90) dX11_book_89 rfl rfl ?_
        refine g_getO (q := 93) (kI := 11) fX11_79 (by first | assumption | exact S.at _ rfl) dX11_book_90 rfl rfl (by first | assumption | exact L.at _ _ rfl | exact LK.at (by assumption) _ _ rfl | ((repeat first | rewrite [wr_na (by decide)] | rewrite [wr_nk (by decide)] | rewrite [wa_na (by decide)]); first | assumption | exact LK.at (by assumption) _ _ rfl) | exact rfl) ?_
        refine g_aload_n (q := 94) dX11_book_93 rfl rfl ?_
        refine g_getO (q := 97) (kI := 2) fX11_20 (by first | assumption | exact S.at _ rfl) dX11_book_94 rfl rfl h525 ?_
        refine g_callV (q := 100) lX11_126 mX4_settle nX4_settle rfl (x_settle 0 sh _ S X hV L5 hoo (fun y hy => by rw [e5 y (by omega), e4 y (by omega) (by omega), e3 y (by omega), oth y (by simp; omega)]) h525 s5 ts (by rw [o5]; exact tn) (by rw [o5]; exact tk) (bkWf_eq (eb5 o (by omega) (by omega)) (eb5 _ (by omega) (by omega)) tW) (by unfold shR; rw [eb5 _ (by omega) (by omega)]; exact hR2)) (by first | assumption | exact S.at _ rfl) rfl rfl shLe.rf (rmOk.mk (by omega) (by first | exact shLe.rf | assumption)) (Nat.le_of_ble_eq_true rfl) dX11_book_97 rfl rfl (kN fun c6 hp => ?_)
        obtain ⟨X6, f6⟩ := hp
        rw [o5] at X6
        have e6 : ∀ y, y ∉ [70, 72, 73, 74] → c6 y = c5 y := f6
        have h06 : c6 0 = c3 0 := by rw [e6 0 (by decide), h05]
        have h625 : c6 0 2 = o := by rw [h06]; exact e302
        have so := (bkAt_b S L5 hoo).1
        have eb6 : ∀ y, o ≤ y → y ≤ o + 4 → c6 y = c2 y := fun y a b => by rw [e6 y (by simp; omega), eb5 y a b]
        refine g_aload_n (q := 101) dX11_book_100 rfl rfl ?_
        refine g_getO (q := 104) (kI := 2) fX11_20 (by first | assumption | exact S.at _ rfl) dX11_book_101 rfl rfl h625 ?_
        refine g_getI (q := 107) (kI := 5) fX11_129 (by first | assumption | exact S.at _ rfl) dX11_book_104 rfl rfl ?_
        refine g_ireturn dX11_book_107 rfl ?_
        rw [← hP]
        refine ⟨_, rfl, Or.inr ⟨hin, K, Pl, E, T, hTS, by rw [h06]; exact e301, ?_, ?_, Or.inr ⟨by rw [hA]; exact c_39, ?_, ⟨bkOf c2 o, by rw [hA]; exact tB, by rw [hA]; exact X6, ?_⟩, ?_, by rw [h06]; exact e303⟩, ?_⟩⟩
        · rw [hA, e6 64 (by decide), e5 64 (by decide), e4 64 (by decide) (by decide), e3 64 (by decide)]
          exact ⟨hf0, hf1⟩
        · unfold shR; rw [eb6 _ (by omega) (by omega)]; exact hR2
        · rw [hA, eb6 o (by omega) (by omega)]
          exact (R2.2 c_39).1 5 (by decide) (by decide) (by decide)
        · exact ⟨by rw [e6 16 (by decide), p161]; exact P.1, by rw [e6 16 (by decide)]; exact p162, by decide, fun k k0 k1 => by omega⟩
        · unfold bkZ; rw [eb6 o (by omega) (by omega)]; exact tZ
        · intro y hy
          simp at hy
          rw [e6 y (by simp; omega), e5 y (by omega), e4 y (by omega) (by omega), e3 y (by omega), oth y (by simp; omega)]
      · rw [w32_id (x := A.1.2.1) (by omega) (by omega)] at c_39
        refine g_bipush (q := 44) dX11_book_42 (by decide +kernel) rfl ?_
        refine g_aload_n (q := 45) dX11_book_44 rfl rfl ?_
        refine g_getO (q := 48) (kI := 9) fX11_63 (by first | assumption | exact S.at _ rfl) dX11_book_45 rfl rfl (by first | assumption | exact L.at _ _ rfl | exact LK.at (by assumption) _ _ rfl | ((repeat first | rewrite [wr_na (by decide)] | rewrite [wr_nk (by decide)] | rewrite [wa_na (by decide)]); first | assumption | exact LK.at (by assumption) _ _ rfl) | exact rfl) ?_
        refine g_getI (q := 51) (kI := 0) fX11_116 (by first | assumption | exact S.at _ rfl) dX11_book_48 rfl rfl ?_
        rw [hf0]
        refine g_isub (q := 52) dX11_book_51 rfl ?_
        refine g_ireturn dX11_book_52 rfl ?_
        rw [← hP]
        refine ⟨_, rfl, Or.inr ⟨hin, K, Pl, E, T, hTS, by rw [z0]; exact e01, by rw [hA]; exact ⟨hf0, hf1⟩, hR2, Or.inl ⟨by rw [hA]; exact c_39, by rw [hA], ⟨?_, ?_⟩, h32⟩, fun y hy => oth y (fun z => hy (by simp at z ⊢; omega))⟩⟩
        · refine X.sit2 L2 (by rw [h22]; exact X.1.symm) (fun y a b => oth y (by simp; omega)) (fun y a => oth y (by simp; omega)) ?_ X.2.2.1.1 X.2.2.1.2.1
          exact X.2.1.cg (oth 12 (by simp; omega)) (oth 13 (by simp; omega))
        · exact P.cg (fun y a b => oth y (by simp; omega))
    · rw [wx, wt] at c_9
      exact no (by omega)
end
