/-! MinuteBook: deeds -/
section
variable {sh : mbSh} {ct c : mbCt} {b : Int} {β : Bk} {s s2 : Sit} {q : Int} {N : Nat} {V : Int} {mk : Int → Int}
theorem MV.of (h : MV ct b β mk) (hL : LK c) (eb : ∀ x : Int, 2 ≤ x → x ≤ 11 → c x = ct x) (e : ∀ x : Int, 68 ≤ x → c x = ct x) : MV c b β mk := by
  have bb : b = 2 ∨ b = 7 := h.hb
  have e0 : c b = ct b := eb b (by omega) (by omega)
  have e2 : c (b + 2) = ct (b + 2) := eb _ (by omega) (by omega)
  have e3 : c (b + 3) = ct (b + 3) := eb _ (by omega) (by omega)
  have e4 : c (b + 4) = ct (b + 4) := eb _ (by omega) (by omega)
  have e70 : c 70 = ct 70 := e 70 (by decide)
  have e71 : c 71 = ct 71 := e 71 (by decide)
  have e74 : c 74 = ct 74 := e 74 (by decide)
  refine ⟨⟨hL, h.hb, by rw [e70]; exact h.h0⟩, ⟨bkWf_eq e0 e4 h.wf, by rw [e 69 (by decide)]; exact h.ask⟩, ⟨mvMin_eq e0 e4 e71 (e 72 (by decide)) h.mn, mvCl_eq e0 e4 (e 73 (by decide)) h.cl, ?_⟩, ⟨by rw [e70]; exact h.la.1, ?_⟩, by rw [e0]; exact h.rg, by rw [e71]; exact h.mr, by rw [bkOf_eq e0 e2 e3 e4]; exact h.bk, by rw [e71]; exact h.mks⟩
  · have t := h.tu
    unfold mvTurn at *
    rw [e0, e2, e3, e74]
    exact t
  · have t := h.la.2
    unfold noLast at *
    rw [e70, e0, e4]
    exact t
/-- the sitting has changed, the book and what was worked out have not -/
theorem CX.sit (X : CX sh ct b β s q N V) (hL : LK c) (h0 : c 0 2 = ct 0 2) (eb : ∀ x : Int, 2 ≤ x → x ≤ 11 → c x = ct x) (e : ∀ x : Int, 68 ≤ x → c x = ct x) (hs : sitC c 12 s2) (hB : sitB s2) (hcn : cnM β s2.2.2) : CX sh c b β s2 q N V := by
  have hq := X.qc
  obtain ⟨g0, gs, ⟨gB, gc, gbk⟩, ⟨mk, hK⟩, sq, hv, hV⟩ := X
  have e70 : c 70 = ct 70 := e 70 (by decide)
  have eq : c q = ct q := e q (by rcases hq with h | h <;> omega)
  exact ⟨by rw [h0]; exact g0, hs, ⟨hB, hcn, gbk⟩, ⟨mk, hK.1.of hL eb e, hK.2.1, hK.2.2.1.mv (e 77 (by decide)) eq (e 79 (by decide)) e70, hK.2.2.2.1.cg e70 (e 87 (by decide)) (e 88 (by decide)) (e 89 (by decide)), hK.2.2.2.2.cg (by rw [e70]) (fun x a b => e x (by omega))⟩, sq, by rw [e70]; exact hv, hV⟩
end
theorem dX11_trySaying_0 : decode cX11_trySaying 0 = .ok (.aload_n 0, 1) := by decide +kernel
theorem dX11_trySaying_1 : decode cX11_trySaying 1 = .ok (.iload_n 2, 1) := by decide +kernel
theorem dX11_trySaying_2 : decode cX11_trySaying 2 = .ok (.invokevirtual 135, 3) := by decide +kernel
theorem dX11_trySaying_5 : decode cX11_trySaying 5 = .ok (.ifCond .eq 11, 3) := by decide +kernel
theorem dX11_trySaying_8 : decode cX11_trySaying 8 = .ok (.aload_n 0, 1) := by decide +kernel
theorem dX11_trySaying_9 : decode cX11_trySaying 9 = .ok (.iload_n 3, 1) := by decide +kernel
theorem dX11_trySaying_10 : decode cX11_trySaying 10 = .ok (.invokevirtual 158, 3) := by decide +kernel
theorem dX11_trySaying_13 : decode cX11_trySaying 13 = .ok (.ifCond .ne 5, 3) := by decide +kernel
theorem dX11_trySaying_16 : decode cX11_trySaying 16 = .ok (.iconst 1, 1) := by decide +kernel
theorem dX11_trySaying_17 : decode cX11_trySaying 17 = .ok (.ireturn, 1) := by decide +kernel
theorem dX11_trySaying_18 : decode cX11_trySaying 18 = .ok (.aload_n 0, 1) := by decide +kernel
theorem dX11_trySaying_19 : decode cX11_trySaying 19 = .ok (.getfield 70, 3) := by decide +kernel
theorem dX11_trySaying_22 : decode cX11_trySaying 22 = .ok (.aload_n 0, 1) := by decide +kernel
theorem dX11_trySaying_23 : decode cX11_trySaying 23 = .ok (.getfield 20, 3) := by decide +kernel
theorem dX11_trySaying_26 : decode cX11_trySaying 26 = .ok (.aload_n 1, 1) := by decide +kernel
theorem dX11_trySaying_27 : decode cX11_trySaying 27 = .ok (.getfield 151, 3) := by decide +kernel
theorem dX11_trySaying_30 : decode cX11_trySaying 30 = .ok (.iload_n 2, 1) := by decide +kernel
theorem dX11_trySaying_31 : decode cX11_trySaying 31 = .ok (.aload_n 1, 1) := by decide +kernel
theorem dX11_trySaying_32 : decode cX11_trySaying 32 = .ok (.getfield 139, 3) := by decide +kernel
theorem dX11_trySaying_35 : decode cX11_trySaying 35 = .ok (.iload_n 2, 1) := by decide +kernel
theorem dX11_trySaying_36 : decode cX11_trySaying 36 = .ok (.iaload, 1) := by decide +kernel
theorem dX11_trySaying_37 : decode cX11_trySaying 37 = .ok (.iload_n 3, 1) := by decide +kernel
theorem dX11_trySaying_38 : decode cX11_trySaying 38 = .ok (.invokevirtual 244, 3) := by decide +kernel
theorem dX11_trySaying_41 : decode cX11_trySaying 41 = .ok (.ifCond .ne 5, 3) := by decide +kernel
theorem dX11_trySaying_44 : decode cX11_trySaying 44 = .ok (.iconst 2, 1) := by decide +kernel
theorem dX11_trySaying_45 : decode cX11_trySaying 45 = .ok (.ireturn, 1) := by decide +kernel
theorem dX11_trySaying_46 : decode cX11_trySaying 46 = .ok (.aload_n 1, 1) := by decide +kernel
theorem dX11_trySaying_47 : decode cX11_trySaying 47 = .ok (.aload_n 0, 1) := by decide +kernel
theorem dX11_trySaying_48 : decode cX11_trySaying 48 = .ok (.getfield 79, 3) := by decide +kernel
theorem dX11_trySaying_51 : decode cX11_trySaying 51 = .ok (.aload_n 1, 1) := by decide +kernel
theorem dX11_trySaying_52 : decode cX11_trySaying 52 = .ok (.getfield 151, 3) := by decide +kernel
theorem dX11_trySaying_55 : decode cX11_trySaying 55 = .ok (.iload_n 2, 1) := by decide +kernel
theorem dX11_trySaying_56 : decode cX11_trySaying 56 = .ok (.iload_n 3, 1) := by decide +kernel
theorem dX11_trySaying_57 : decode cX11_trySaying 57 = .ok (.invokevirtual 248, 3) := by decide +kernel
theorem dX11_trySaying_60 : decode cX11_trySaying 60 = .ok (.putfield 151, 3) := by decide +kernel
theorem dX11_trySaying_63 : decode cX11_trySaying 63 = .ok (.aload_n 1, 1) := by decide +kernel
theorem dX11_trySaying_64 : decode cX11_trySaying 64 = .ok (.dup, 1) := by decide +kernel
theorem dX11_trySaying_65 : decode cX11_trySaying 65 = .ok (.getfield 201, 3) := by decide +kernel
theorem dX11_trySaying_68 : decode cX11_trySaying 68 = .ok (.iconst 1, 1) := by decide +kernel
theorem dX11_trySaying_69 : decode cX11_trySaying 69 = .ok (.iadd, 1) := by decide +kernel
theorem dX11_trySaying_70 : decode cX11_trySaying 70 = .ok (.putfield 201, 3) := by decide +kernel
theorem dX11_trySaying_73 : decode cX11_trySaying 73 = .ok (.iconst 0, 1) := by decide +kernel
theorem dX11_trySaying_74 : decode cX11_trySaying 74 = .ok (.ireturn, 1) := by decide +kernel
theorem dX11_tryMarking_0 : decode cX11_tryMarking 0 = .ok (.aload_n 0, 1) := by decide +kernel
theorem dX11_tryMarking_1 : decode cX11_tryMarking 1 = .ok (.iload_n 2, 1) := by decide +kernel
theorem dX11_tryMarking_2 : decode cX11_tryMarking 2 = .ok (.invokevirtual 135, 3) := by decide +kernel
theorem dX11_tryMarking_5 : decode cX11_tryMarking 5 = .ok (.ifCond .eq 13, 3) := by decide +kernel
theorem dX11_tryMarking_8 : decode cX11_tryMarking 8 = .ok (.iload_n 3, 1) := by decide +kernel
theorem dX11_tryMarking_9 : decode cX11_tryMarking 9 = .ok (.ifCond .lt 9, 3) := by decide +kernel
theorem dX11_tryMarking_12 : decode cX11_tryMarking 12 = .ok (.iload_n 3, 1) := by decide +kernel
theorem dX11_tryMarking_13 : decode cX11_tryMarking 13 = .ok (.bipush 9, 2) := by decide +kernel
theorem dX11_tryMarking_15 : decode cX11_tryMarking 15 = .ok (.if_icmp .le 5, 3) := by decide +kernel
theorem dX11_tryMarking_18 : decode cX11_tryMarking 18 = .ok (.iconst 1, 1) := by decide +kernel
theorem dX11_tryMarking_19 : decode cX11_tryMarking 19 = .ok (.ireturn, 1) := by decide +kernel
theorem dX11_tryMarking_20 : decode cX11_tryMarking 20 = .ok (.aload_n 1, 1) := by decide +kernel
theorem dX11_tryMarking_21 : decode cX11_tryMarking 21 = .ok (.getfield 139, 3) := by decide +kernel
theorem dX11_tryMarking_24 : decode cX11_tryMarking 24 = .ok (.iload_n 2, 1) := by decide +kernel
theorem dX11_tryMarking_25 : decode cX11_tryMarking 25 = .ok (.iload_n 3, 1) := by decide +kernel
theorem dX11_tryMarking_26 : decode cX11_tryMarking 26 = .ok (.iastore, 1) := by decide +kernel
theorem dX11_tryMarking_27 : decode cX11_tryMarking 27 = .ok (.iconst 0, 1) := by decide +kernel
theorem dX11_tryMarking_28 : decode cX11_tryMarking 28 = .ok (.ireturn, 1) := by decide +kernel
theorem sitAt_n {sh : mbSh} {ct : mbCt} (S : SH sh) (L : LK ct) {a : Int} (ha : a = 12 ∨ a = 14) : sitAt sh ct a := by
  rcases ha with rfl | rfl
  · exact ⟨S.at _ rfl, S.at _ rfl, L.at _ _ rfl⟩
  · exact ⟨S.at _ rfl, S.at _ rfl, L.at _ _ rfl⟩
/-- nothing but a sitting and Moves' own rows has changed -/
abbrev dE (a : Int) (ct c : mbCt) : Prop := eqBut [a, a + 1, 68, 69, 72, 73, 75, 76] ct c ∧ c a 2 = ct a 2
section
variable (d : Nat) (sh : mbSh) (ct : mbCt) {b : Int} {β : Bk} {s z : Sit} {q : Int} {N : Nat} {V : Int} {a : Int}
/-- CX, whatever the sitting: only the sitting a has been written -/
theorem CX.wrs {c : mbCt} {k v : Int} (X : CX sh ct b β s q N V) (h14 : c = wr ct 14 k v) (hk : k ≠ 2) : CX sh c b β s q N V := by
  have L := X.L
  subst h14
  refine X.sit (L.wr (by
    unfold lkF
    split
    · rename_i h
      have : k = 0 ∨ k = 1 ∨ 3 ≤ k := by omega
      rcases this with rfl | rfl | h3
      · rfl
      · rfl
      · show (([none, none, some 15] : List (Option Int))[k.toNat]?).getD none = none
        rw [List.getElem?_eq_none (by show 3 ≤ k.toNat; omega)]
        rfl
    · rfl)) (by rw [wr_na (by decide)]) (fun x h1 h2 => wr_other _ _ _ _ _ (by omega)) (fun x h1 => wr_other _ _ _ _ _ (by omega)) ?_ X.2.2.1.1 X.2.2.1.2.1
  exact X.2.1.cg (wr_other _ _ _ _ _ (by decide)) (wr_other _ _ _ _ _ (by decide))
theorem lk_sit {a k : Int} (ha : a = 12 ∨ a = 14) (hk : k = 0 ∨ k = 1) : lkF a k = none := by
  rcases ha with rfl | rfl <;> rcases hk with rfl | rfl <;> rfl
theorem x_trySaying {m y : Int} (S : SH sh) (X : CX sh ct b β s q N V) (ha : (a = 12 ∧ z = s) ∨ a = 14) (hz : sitC ct a z) (hzB : sitB z) (hzc : cnM β z.2.2) (hm : i32 m) (hy : i32 y) : Mt YX11_trySaying (d + 2) [.inr (.inr 0), .inr (.inr a), .inl m, .inl y] sh sh ct (pI fun r c => r = whyS β z m y ∧ (∃ s', ((a = 14 ∧ s' = s) ∨ (a = 12 ∧ s' = if whyS β z m y = 0 then sayS β z m y else z)) ∧ CX sh c b β s' q N V) ∧ sitC c a (if whyS β z m y = 0 then sayS β z m y else z) ∧ dE a ct c) := by
  have L := X.L
  have ha' : a = 12 ∨ a = 14 := by omega
  have hat := sitAt_n S L ha'
  have sa := hat.1
  have sa1 := hat.2.1
  have la2 := hat.2.2
  have hb2 := X.2.2.1.2.2.2.2.1
  have hb3 := X.2.2.1.2.2.2.2.2.1
  have same : ∀ s'', ((a = 14 ∧ s'' = s) ∨ (a = 12 ∧ s'' = z)) → s'' = s := by
    rintro s'' (h | h)
    · exact h.2
    · rcases ha with h2 | h2
      · rw [h.2, h2.2]
      · omega
  generalize hP : (pI fun r c => r = whyS β z m y ∧ (∃ s', ((a = 14 ∧ s' = s) ∨ (a = 12 ∧ s' = if whyS β z m y = 0 then sayS β z m y else z)) ∧ CX sh c b β s' q N V) ∧ sitC c a (if whyS β z m y = 0 then sayS β z m y else z) ∧ dE a ct c) = Po
  have stay : ∀ (r : Int) (c : mbCt), whyS β z m y = r → r ≠ 0 → CX sh c b β s q N V → sitC c a z → dE a ct c → Po (some (.inl r)) c := by
    intro r c hr hr0 Xc hc hd
    rw [← hP]
    refine ⟨_, rfl, hr.symm, ⟨s, ?_, Xc⟩, by rw [if_neg (by omega)]; exact hc, hd⟩
    rw [if_neg (by omega)]
    rcases ha with h | h
    · exact Or.inr ⟨h.1, h.2.symm⟩
    · exact Or.inl ⟨h, rfl⟩
  have no1 : ¬ ((0 ≤ m ∧ m < β.n 2) ∧ 0 ≤ y ∧ y < β.n 3) → whyS β z m y = 1 := fun h => by unfold whyS; rw [if_neg h]
  refine Mt.of rfl (Nat.le_of_ble_eq_true rfl) ?_
  show G _ 0 [some (.inr (.inr 0)), some (.inr (.inr a)), some (.inl m), some (.inl y)] [] sh ct
  refine g_aload_n (q := 1) dX11_trySaying_0 rfl rfl ?_
  refine g_iload_n (q := 2) dX11_trySaying_1 rfl rfl ?_
  refine g_callV (q := 5) lX11_135 mX11_isMember nX11_isMember rfl (x_isMember (d + 1) sh _ S X hm) (by first | assumption | exact S.at _ rfl) rfl rfl shLe.rf (rmOk.mk (by omega) (by first | exact shLe.rf | assumption)) (Nat.le_of_ble_eq_true rfl) dX11_trySaying_2 rfl rfl (kI fun r_ c_ hp => ?_)
  obtain ⟨hr, hq⟩ := hp
  replace hr := hr.symm
  replace hq := hq.symm
  subst hr hq
  refine g_if_eq (q := 8) (tg := 16) dX11_trySaying_5 (by decide) rfl (fun c_5 => ?_) (fun c_5 => ?_)
  · refine g_iconst (q := 17) dX11_trySaying_16 rfl ?_
    refine g_ireturn dX11_trySaying_17 rfl ?_
    exact stay 1 ct (no1 (fun h => wb0.mp c_5 h.1)) (by decide) X hz ⟨eqBut.rf, rfl⟩
  · have hmb := wbn.mp c_5
    refine g_aload_n (q := 9) dX11_trySaying_8 rfl rfl ?_
    refine g_iload_n (q := 10) dX11_trySaying_9 rfl rfl ?_
    refine g_callV (q := 13) lX11_158 mX11_isSaying nX11_isSaying rfl (x_isSaying (d + 1) sh _ S X hy) (by first | assumption | exact S.at _ rfl) rfl rfl shLe.rf (rmOk.mk (by omega) (by first | exact shLe.rf | assumption)) (Nat.le_of_ble_eq_true rfl) dX11_trySaying_10 rfl rfl (kI fun r_ c_ hp => ?_)
    obtain ⟨hr, hq⟩ := hp
    replace hr := hr.symm
    replace hq := hq.symm
    subst hr hq
    refine g_if_ne (q := 16) (tg := 18) dX11_trySaying_13 (by decide) rfl (fun c_13 => ?_) (fun c_13 => ?_)
    · have hsy := wbn.mp c_13
      have hmr := hzB.2 m hmb.1 (by omega)
      have h02 := X.1
      have hza : ct a 0 = z.1 := hz.1
      have hzm : ct (a + 1) m = z.2.2 m := hz.2.2 m hmb.1 (by omega)
      refine g_aload_n (q := 19) dX11_trySaying_18 rfl rfl ?_
      refine g_getO (q := 22) (kI := 10) fX11_70 (by first | assumption | exact S.at _ rfl) dX11_trySaying_19 rfl rfl (by first | assumption | exact L.at _ _ rfl | exact LK.at (by assumption) _ _ rfl | ((repeat first | rewrite [wr_na (by decide)] | rewrite [wr_nk (by decide)] | rewrite [wa_na (by decide)]); first | assumption | exact LK.at (by assumption) _ _ rfl) | exact rfl) ?_
      refine g_aload_n (q := 23) dX11_trySaying_22 rfl rfl ?_
      refine g_getO (q := 26) (kI := 2) fX11_20 (by first | assumption | exact S.at _ rfl) dX11_trySaying_23 rfl rfl (by first | assumption | exact L.at _ _ rfl | exact LK.at (by assumption) _ _ rfl | ((repeat first | rewrite [wr_na (by decide)] | rewrite [wr_nk (by decide)] | rewrite [wa_na (by decide)]); first | assumption | exact LK.at (by assumption) _ _ rfl) | exact rfl) ?_
      refine g_aload_n (q := 27) dX11_trySaying_26 rfl rfl ?_
      refine g_getI (q := 30) (kI := 0) fX11_151 (by first | assumption | exact S.at _ rfl) dX11_trySaying_27 rfl rfl ?_
      rw [hza]
      refine g_iload_n (q := 31) dX11_trySaying_30 rfl rfl ?_
      refine g_aload_n (q := 32) dX11_trySaying_31 rfl rfl ?_
      refine g_getA (q := 35) (kI := 2) fX11_139 (by first | assumption | exact S.at _ rfl) dX11_trySaying_32 rfl rfl (by first | assumption | exact L.at _ _ rfl | exact LK.at (by assumption) _ _ rfl | ((repeat first | rewrite [wr_na (by decide)] | rewrite [wr_nk (by decide)] | rewrite [wa_na (by decide)]); first | assumption | exact LK.at (by assumption) _ _ rfl) | exact rfl) ?_
      refine g_iload_n (q := 36) dX11_trySaying_35 rfl rfl ?_
      refine g_iaload (q := 37) (by first | assumption | exact S.at _ rfl) (by omega) (by omega) (by omega) dX11_trySaying_36 rfl ?_
      rw [hzm]
      refine g_iload_n (q := 38) dX11_trySaying_37 rfl rfl ?_
      refine g_callV (q := 41) lX11_244 mX7_wouldSay nX7_wouldSay rfl (x_wouldSay d sh _ S X hzB.1.1 hzB.1.2 hmb.1 (by omega) (by omega) (by omega) hsy.1 (by omega)) (by first | assumption | exact S.at _ rfl) rfl rfl shLe.rf (rmOk.mk (by omega) (by first | exact shLe.rf | assumption)) (Nat.le_of_ble_eq_true rfl) dX11_trySaying_38 rfl rfl (kI fun r c1 hp => ?_)
      obtain ⟨rfl, X1, e1⟩ := hp
      have L1 := X1.L
      have fa : c1 a = ct a := e1 a (by rcases ha' with rfl | rfl <;> decide)
      have fa1 : c1 (a + 1) = ct (a + 1) := e1 (a + 1) (by rcases ha' with rfl | rfl <;> decide)
      have hz1 : sitC c1 a z := hz.cg fa fa1
      have hd1 : dE a ct c1 := ⟨e1.mono (fun x hx => by simp at hx ⊢; omega), by rw [fa]⟩
      refine g_if_ne (q := 44) (tg := 46) dX11_trySaying_41 (by decide) rfl (fun c_41 => ?_) (fun c_41 => ?_)
      · have hw := wbn.mp c_41
        have h0 : whyS β z m y = 0 := by unfold whyS; rw [if_pos ⟨hmb, hsy⟩, if_pos hw]
        have hza1 : c1 a 0 = z.1 := hz1.1
        refine g_aload_n (q := 47) dX11_trySaying_46 rfl rfl ?_
        refine g_aload_n (q := 48) dX11_trySaying_47 rfl rfl ?_
        refine g_getO (q := 51) (kI := 11) fX11_79 (by first | assumption | exact S.at _ rfl) dX11_trySaying_48 rfl rfl (by first | assumption | exact L.at _ _ rfl | exact LK.at (by assumption) _ _ rfl | ((repeat first | rewrite [wr_na (by decide)] | rewrite [wr_nk (by decide)] | rewrite [wa_na (by decide)]); first | assumption | exact LK.at (by assumption) _ _ rfl) | exact rfl) ?_
        refine g_aload_n (q := 52) dX11_trySaying_51 rfl rfl ?_
        refine g_getI (q := 55) (kI := 0) fX11_151 (by first | assumption | exact S.at _ rfl) dX11_trySaying_52 rfl rfl ?_
        rw [hza1]
        refine g_iload_n (q := 56) dX11_trySaying_55 rfl rfl ?_
        refine g_iload_n (q := 57) dX11_trySaying_56 rfl rfl ?_
        refine g_callV (q := 60) lX11_248 mX4_behind nX4_behind rfl (x_behind (d + 1) sh _ S X1 hzB.1.1 hzB.1.2 hsy.1 hsy.2) (by first | assumption | exact S.at _ rfl) rfl rfl shLe.rf (rmOk.mk (by omega) (by first | exact shLe.rf | assumption)) (Nat.le_of_ble_eq_true rfl) dX11_trySaying_57 rfl rfl (kI fun r_ c_ hp => ?_)
        obtain ⟨hr, hq⟩ := hp
        replace hr := hr.symm
        replace hq := hq.symm
        subst hr hq
        refine g_putI (q := 63) (kI := 0) fX11_151 (by first | assumption | exact S.at _ rfl) dX11_trySaying_60 rfl rfl ?_
        refine g_aload_n (q := 64) dX11_trySaying_63 rfl rfl ?_
        refine g_dup (q := 65) dX11_trySaying_64 rfl rfl ?_
        refine g_getI (q := 68) (kI := 1) fX11_201 (by first | assumption | exact S.at _ rfl) dX11_trySaying_65 rfl rfl ?_
        refine g_iconst (q := 69) dX11_trySaying_68 rfl ?_
        refine g_iadd (q := 70) dX11_trySaying_69 rfl ?_
        refine g_putI (q := 73) (kI := 1) fX11_201 (by first | assumption | exact S.at _ rfl) dX11_trySaying_70 rfl rfl ?_
        refine g_iconst (q := 74) dX11_trySaying_73 rfl ?_
        refine g_ireturn dX11_trySaying_74 rfl ?_
        have hc1 : c1 a 1 = z.2.1 := hz1.2.1
        have hL := (L1.wr (v := nxB β z.1 m y) (lk_sit ha' (Or.inl rfl))).wr (v := (wr c1 a 0 (nxB β z.1 m y)) a 1 + 1) (lk_sit ha' (Or.inr rfl))
        have k0 : (wr (wr c1 a 0 (nxB β z.1 m y)) a 1 ((wr c1 a 0 (nxB β z.1 m y)) a 1 + 1)) a 0 = nxB β z.1 m y := by rw [wr_nk (by decide), wr_eq]
        have k1 : (wr (wr c1 a 0 (nxB β z.1 m y)) a 1 ((wr c1 a 0 (nxB β z.1 m y)) a 1 + 1)) a 1 = z.2.1 + 1 := by rw [wr_eq, wr_nk (by decide), hc1]
        have k2 : (wr (wr c1 a 0 (nxB β z.1 m y)) a 1 ((wr c1 a 0 (nxB β z.1 m y)) a 1 + 1)) a 2 = c1 a 2 := by rw [wr_nk (by decide), wr_nk (by decide)]
        have oth : ∀ x, x ≠ a → (wr (wr c1 a 0 (nxB β z.1 m y)) a 1 ((wr c1 a 0 (nxB β z.1 m y)) a 1 + 1)) x = c1 x := fun x hx => by rw [wr_other _ _ _ _ _ hx, wr_other _ _ _ _ _ hx]
        generalize wr (wr c1 a 0 (nxB β z.1 m y)) a 1 ((wr c1 a 0 (nxB β z.1 m y)) a 1 + 1) = c2 at hL k0 k1 k2 oth
        have hs2 : sitC c2 a (sayS β z m y) := ⟨k0, k1, fun m m0 m1 => by rw [oth (a + 1) (by omega)]; exact hz1.2.2 m m0 m1⟩
        have hB2 : sitB (sayS β z m y) := ⟨nxB_in hmb.1 (by omega), hzB.2⟩
        rw [← hP, h0]
        refine ⟨_, rfl, rfl, ?_, by rw [if_pos rfl]; exact hs2, fun x hx => ?_, by rw [k2, fa]⟩
        · rw [if_pos rfl]
          rcases ha with h | h
          · refine ⟨_, Or.inr ⟨h.1, rfl⟩, X1.sit hL (by rw [oth 0 (by omega)]) (fun x h1 h2 => oth x (by omega)) (fun x h1 => oth x (by omega)) (by rw [← h.1]; exact hs2) hB2 hzc⟩
          · exact ⟨s, Or.inl ⟨h, rfl⟩, X1.sit hL (by rw [oth 0 (by omega)]) (fun x h1 h2 => oth x (by omega)) (fun x h1 => oth x (by omega)) (X1.2.1.cg (oth 12 (by omega)) (oth 13 (by omega))) X1.2.2.1.1 X1.2.2.1.2.1⟩
        · rw [oth x (fun z => hx (by simp [z]))]
          exact hd1.1 x hx
      · have hw := wb0.mp c_41
        refine g_iconst (q := 45) dX11_trySaying_44 rfl ?_
        refine g_ireturn dX11_trySaying_45 rfl ?_
        refine stay 2 c1 ?_ (by decide) X1 hz1 hd1
        unfold whyS
        rw [if_pos ⟨hmb, hsy⟩, if_neg hw]
    · refine g_iconst (q := 17) dX11_trySaying_16 rfl ?_
      refine g_ireturn dX11_trySaying_17 rfl ?_
      exact stay 1 ct (no1 (fun h => wb0.mp c_13 h.2)) (by decide) X hz ⟨eqBut.rf, rfl⟩
theorem lk_mrk {k : Int} (ha : a = 12 ∨ a = 14) : lkF (a + 1) k = none := by
  rcases ha with rfl | rfl
  · unfold lkF
    split
    · show (([] : List (Option Int))[k.toNat]?).getD none = none
      simp
    · rfl
  · unfold lkF
    split
    · show (([] : List (Option Int))[k.toNat]?).getD none = none
      simp
    · rfl
theorem x_tryMarking {m v : Int} (S : SH sh) (X : CX sh ct b β s q N V) (ha : (a = 12 ∧ z = s) ∨ a = 14) (hz : sitC ct a z) (hzB : sitB z) (hzc : cnM β z.2.2) (hm : i32 m) (hv : i32 v) : Mt YX11_tryMarking (d + 1) [.inr (.inr 0), .inr (.inr a), .inl m, .inl v] sh sh ct (pI fun r c => (¬ mrkOk β m v ∧ r = 1 ∧ c = ct) ∨ (mrkOk β m v ∧ r = 0 ∧ (∃ s', ((a = 14 ∧ s' = s) ∨ (a = 12 ∧ s' = mrkS z m v)) ∧ CX sh c b β s' q N V) ∧ sitC c a (mrkS z m v) ∧ dE a ct c)) := by
  have L := X.L
  have ha' : a = 12 ∨ a = 14 := by omega
  have hat := sitAt_n S L ha'
  have sa := hat.1
  have sa1 := hat.2.1
  have la2 := hat.2.2
  have hb2 := X.2.2.1.2.2.2.2.1
  unfold i32 at hv
  have wv := w32_id hv.1 hv.2
  generalize hP : (pI fun r c => (¬ mrkOk β m v ∧ r = 1 ∧ c = ct) ∨ (mrkOk β m v ∧ r = 0 ∧ (∃ s', ((a = 14 ∧ s' = s) ∨ (a = 12 ∧ s' = mrkS z m v)) ∧ CX sh c b β s' q N V) ∧ sitC c a (mrkS z m v) ∧ dE a ct c)) = Po
  have bad : ¬ mrkOk β m v → G (mkK YX11_tryMarking (d + 1) sh sh Po) 18 [some (.inr (.inr 0)), some (.inr (.inr a)), some (.inl m), some (.inl v)] [] sh ct := by
    intro h
    refine g_iconst (q := 19) dX11_tryMarking_18 rfl ?_
    refine g_ireturn dX11_tryMarking_19 rfl ?_
    rw [← hP]
    exact ⟨_, rfl, Or.inl ⟨h, rfl, rfl⟩⟩
  refine Mt.of rfl (Nat.le_of_ble_eq_true rfl) ?_
  show G _ 0 [some (.inr (.inr 0)), some (.inr (.inr a)), some (.inl m), some (.inl v)] [] sh ct
  refine g_aload_n (q := 1) dX11_tryMarking_0 rfl rfl ?_
  refine g_iload_n (q := 2) dX11_tryMarking_1 rfl rfl ?_
  refine g_callV (q := 5) lX11_135 mX11_isMember nX11_isMember rfl (x_isMember d sh _ S X hm) (by first | assumption | exact S.at _ rfl) rfl rfl shLe.rf (rmOk.mk (by omega) (by first | exact shLe.rf | assumption)) (Nat.le_of_ble_eq_true rfl) dX11_tryMarking_2 rfl rfl (kI fun r_ c_ hp => ?_)
  obtain ⟨hr, hq⟩ := hp
  replace hr := hr.symm
  replace hq := hq.symm
  subst hr hq
  refine g_if_eq (q := 8) (tg := 18) dX11_tryMarking_5 (by decide) rfl (fun c_5 => ?_) (fun c_5 => ?_)
  · exact bad (fun h => wb0.mp c_5 h.1)
  · have hmb := wbn.mp c_5
    refine g_iload_n (q := 9) dX11_tryMarking_8 rfl rfl ?_
    refine g_if_lt (q := 12) (tg := 18) dX11_tryMarking_9 (by decide) rfl (fun c_9 => ?_) (fun c_9 => ?_)
    · exact bad (fun h => by have := h.2.1; omega)
    · refine g_iload_n (q := 13) dX11_tryMarking_12 rfl rfl ?_
      refine g_bipush (q := 15) dX11_tryMarking_13 (by decide +kernel) rfl ?_
      refine g_icmp_le (q := 18) (tg := 20) dX11_tryMarking_15 (by decide) rfl (fun c_15 => ?_) (fun c_15 => ?_)
      · have hv9 : 0 ≤ v ∧ v ≤ 9 := by
          rw [wv, show w32 9 = 9 from rfl] at c_15
          omega
        refine g_aload_n (q := 21) dX11_tryMarking_20 rfl rfl ?_
        refine g_getA (q := 24) (kI := 2) fX11_139 (by first | assumption | exact S.at _ rfl) dX11_tryMarking_21 rfl rfl (by first | assumption | exact L.at _ _ rfl | exact LK.at (by assumption) _ _ rfl | ((repeat first | rewrite [wr_na (by decide)] | rewrite [wr_nk (by decide)] | rewrite [wa_na (by decide)]); first | assumption | exact LK.at (by assumption) _ _ rfl) | exact rfl) ?_
        refine g_iload_n (q := 25) dX11_tryMarking_24 rfl rfl ?_
        refine g_iload_n (q := 26) dX11_tryMarking_25 rfl rfl ?_
        refine g_iastore (q := 27) (by first | assumption | exact S.at _ rfl) (by omega) (by omega) (by omega) dX11_tryMarking_26 rfl ?_
        refine g_iconst (q := 28) dX11_tryMarking_27 rfl ?_
        refine g_ireturn dX11_tryMarking_28 rfl ?_
        have hL := L.wr (v := v) (lk_mrk (k := m) ha')
        have oth : ∀ x, x ≠ a + 1 → (wr ct (a + 1) m v) x = ct x := fun x hx => wr_other _ _ _ _ _ hx
        have kr : ∀ k, (wr ct (a + 1) m v) (a + 1) k = if k = m then v else ct (a + 1) k := by
          intro k
          by_cases hk : k = m
          · rw [hk, wr_eq, if_pos rfl]
          · rw [wr_nk hk, if_neg hk]
        generalize wr ct (a + 1) m v = c2 at hL oth kr
        have ea : c2 a = ct a := oth a (by omega)
        have hs2 : sitC c2 a (mrkS z m v) := by
          refine ⟨by rw [ea]; exact hz.1, by rw [ea]; exact hz.2.1, fun k k0 k1 => ?_⟩
          rw [kr k]
          show _ = if k = m then v else z.2.2 k
          rw [hz.2.2 k k0 k1]
        have hB2 : sitB (mrkS z m v) := by
          refine ⟨hzB.1, fun k k0 k1 => ?_⟩
          show 0 ≤ (if k = m then v else z.2.2 k) ∧ (if k = m then v else z.2.2 k) ≤ 9
          split
          · exact hv9
          · exact hzB.2 k k0 k1
        have hc2 : cnM β (mrkS z m v).2.2 := by
          intro k hk
          show (if k = m then v else z.2.2 k) = 0
          rw [if_neg (fun e => hk (by rw [e]; exact hmb))]
          exact hzc k hk
        rw [← hP]
        refine ⟨_, rfl, Or.inr ⟨⟨hmb, hv9⟩, rfl, ?_, hs2, fun x hx => oth x (fun z => hx (by simp [z])), by rw [ea]⟩⟩
        rcases ha with h | h
        · exact ⟨_, Or.inr ⟨h.1, rfl⟩, X.sit hL (by rw [oth 0 (by omega)]) (fun x h1 h2 => oth x (by omega)) (fun x h1 => oth x (by omega)) (by rw [← h.1]; exact hs2) hB2 hc2⟩
        · exact ⟨s, Or.inl ⟨h, rfl⟩, X.sit hL (by rw [oth 0 (by omega)]) (fun x h1 h2 => oth x (by omega)) (fun x h1 => oth x (by omega)) (X.2.1.cg (oth 12 (by omega)) (oth 13 (by omega))) X.2.2.1.1 X.2.2.1.2.1⟩
      · refine bad (fun h => ?_)
        have := h.2.2
        rw [wv, show w32 9 = 9 from rfl] at c_15
        omega
end
