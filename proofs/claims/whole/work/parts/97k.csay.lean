/-! MinuteBook: say, mark, adjourn, undo -/
theorem dX11_say_0 : decode cX11_say 0 = .ok (.aload_n 0, 1) := by decide +kernel
theorem dX11_say_1 : decode cX11_say 1 = .ok (.getfield 34, 3) := by decide +kernel
theorem dX11_say_4 : decode cX11_say 4 = .ok (.aload_n 0, 1) := by decide +kernel
theorem dX11_say_5 : decode cX11_say 5 = .ok (.getfield 30, 3) := by decide +kernel
theorem dX11_say_8 : decode cX11_say 8 = .ok (.invokevirtual 184, 3) := by decide +kernel
theorem dX11_say_11 : decode cX11_say 11 = .ok (.aload_n 0, 1) := by decide +kernel
theorem dX11_say_12 : decode cX11_say 12 = .ok (.aload_n 0, 1) := by decide +kernel
theorem dX11_say_13 : decode cX11_say 13 = .ok (.getfield 30, 3) := by decide +kernel
theorem dX11_say_16 : decode cX11_say 16 = .ok (.iload_n 1, 1) := by decide +kernel
theorem dX11_say_17 : decode cX11_say 17 = .ok (.iload_n 2, 1) := by decide +kernel
theorem dX11_say_18 : decode cX11_say 18 = .ok (.invokevirtual 188, 3) := by decide +kernel
theorem dX11_say_21 : decode cX11_say 21 = .ok (.istore_n 3, 1) := by decide +kernel
theorem dX11_say_22 : decode cX11_say 22 = .ok (.iload_n 3, 1) := by decide +kernel
theorem dX11_say_23 : decode cX11_say 23 = .ok (.ifCond .eq 8, 3) := by decide +kernel
theorem dX11_say_26 : decode cX11_say 26 = .ok (.bipush (-10), 2) := by decide +kernel
theorem dX11_say_28 : decode cX11_say 28 = .ok (.iload_n 3, 1) := by decide +kernel
theorem dX11_say_29 : decode cX11_say 29 = .ok (.isub, 1) := by decide +kernel
theorem dX11_say_30 : decode cX11_say 30 = .ok (.ireturn, 1) := by decide +kernel
theorem dX11_say_31 : decode cX11_say 31 = .ok (.aload_n 0, 1) := by decide +kernel
theorem dX11_say_32 : decode cX11_say 32 = .ok (.getfield 40, 3) := by decide +kernel
theorem dX11_say_35 : decode cX11_say 35 = .ok (.aload_n 0, 1) := by decide +kernel
theorem dX11_say_36 : decode cX11_say 36 = .ok (.getfield 34, 3) := by decide +kernel
theorem dX11_say_39 : decode cX11_say 39 = .ok (.invokevirtual 192, 3) := by decide +kernel
theorem dX11_say_42 : decode cX11_say 42 = .ok (.aload_n 0, 1) := by decide +kernel
theorem dX11_say_43 : decode cX11_say 43 = .ok (.getfield 30, 3) := by decide +kernel
theorem dX11_say_46 : decode cX11_say 46 = .ok (.getfield 151, 3) := by decide +kernel
theorem dX11_say_49 : decode cX11_say 49 = .ok (.invokestatic 195, 3) := by decide +kernel
theorem dX11_say_52 : decode cX11_say 52 = .ok (.ireturn, 1) := by decide +kernel
theorem dX11_mark_0 : decode cX11_mark 0 = .ok (.aload_n 0, 1) := by decide +kernel
theorem dX11_mark_1 : decode cX11_mark 1 = .ok (.getfield 34, 3) := by decide +kernel
theorem dX11_mark_4 : decode cX11_mark 4 = .ok (.aload_n 0, 1) := by decide +kernel
theorem dX11_mark_5 : decode cX11_mark 5 = .ok (.getfield 30, 3) := by decide +kernel
theorem dX11_mark_8 : decode cX11_mark 8 = .ok (.invokevirtual 184, 3) := by decide +kernel
theorem dX11_mark_11 : decode cX11_mark 11 = .ok (.aload_n 0, 1) := by decide +kernel
theorem dX11_mark_12 : decode cX11_mark 12 = .ok (.aload_n 0, 1) := by decide +kernel
theorem dX11_mark_13 : decode cX11_mark 13 = .ok (.getfield 30, 3) := by decide +kernel
theorem dX11_mark_16 : decode cX11_mark 16 = .ok (.iload_n 1, 1) := by decide +kernel
theorem dX11_mark_17 : decode cX11_mark 17 = .ok (.iload_n 2, 1) := by decide +kernel
theorem dX11_mark_18 : decode cX11_mark 18 = .ok (.invokevirtual 198, 3) := by decide +kernel
theorem dX11_mark_21 : decode cX11_mark 21 = .ok (.istore_n 3, 1) := by decide +kernel
theorem dX11_mark_22 : decode cX11_mark 22 = .ok (.iload_n 3, 1) := by decide +kernel
theorem dX11_mark_23 : decode cX11_mark 23 = .ok (.ifCond .ne 11, 3) := by decide +kernel
theorem dX11_mark_26 : decode cX11_mark 26 = .ok (.aload_n 0, 1) := by decide +kernel
theorem dX11_mark_27 : decode cX11_mark 27 = .ok (.iload_n 1, 1) := by decide +kernel
theorem dX11_mark_28 : decode cX11_mark 28 = .ok (.invokevirtual 135, 3) := by decide +kernel
theorem dX11_mark_31 : decode cX11_mark 31 = .ok (.ifCond .ne 6, 3) := by decide +kernel
theorem dX11_mark_34 : decode cX11_mark 34 = .ok (.bipush (-11), 2) := by decide +kernel
theorem dX11_mark_36 : decode cX11_mark 36 = .ok (.ireturn, 1) := by decide +kernel
theorem dX11_mark_37 : decode cX11_mark 37 = .ok (.aload_n 0, 1) := by decide +kernel
theorem dX11_mark_38 : decode cX11_mark 38 = .ok (.getfield 40, 3) := by decide +kernel
theorem dX11_mark_41 : decode cX11_mark 41 = .ok (.aload_n 0, 1) := by decide +kernel
theorem dX11_mark_42 : decode cX11_mark 42 = .ok (.getfield 34, 3) := by decide +kernel
theorem dX11_mark_45 : decode cX11_mark 45 = .ok (.invokevirtual 192, 3) := by decide +kernel
theorem dX11_mark_48 : decode cX11_mark 48 = .ok (.aload_n 0, 1) := by decide +kernel
theorem dX11_mark_49 : decode cX11_mark 49 = .ok (.getfield 34, 3) := by decide +kernel
theorem dX11_mark_52 : decode cX11_mark 52 = .ok (.getfield 139, 3) := by decide +kernel
theorem dX11_mark_55 : decode cX11_mark 55 = .ok (.iload_n 1, 1) := by decide +kernel
theorem dX11_mark_56 : decode cX11_mark 56 = .ok (.iaload, 1) := by decide +kernel
theorem dX11_mark_57 : decode cX11_mark 57 = .ok (.ireturn, 1) := by decide +kernel
theorem dX11_adjourn_0 : decode cX11_adjourn 0 = .ok (.aload_n 0, 1) := by decide +kernel
theorem dX11_adjourn_1 : decode cX11_adjourn 1 = .ok (.getfield 40, 3) := by decide +kernel
theorem dX11_adjourn_4 : decode cX11_adjourn 4 = .ok (.aload_n 0, 1) := by decide +kernel
theorem dX11_adjourn_5 : decode cX11_adjourn 5 = .ok (.getfield 30, 3) := by decide +kernel
theorem dX11_adjourn_8 : decode cX11_adjourn 8 = .ok (.invokevirtual 192, 3) := by decide +kernel
theorem dX11_adjourn_11 : decode cX11_adjourn 11 = .ok (.aload_n 0, 1) := by decide +kernel
theorem dX11_adjourn_12 : decode cX11_adjourn 12 = .ok (.getfield 30, 3) := by decide +kernel
theorem dX11_adjourn_15 : decode cX11_adjourn 15 = .ok (.getfield 201, 3) := by decide +kernel
theorem dX11_adjourn_18 : decode cX11_adjourn 18 = .ok (.istore_n 1, 1) := by decide +kernel
theorem dX11_adjourn_19 : decode cX11_adjourn 19 = .ok (.aload_n 0, 1) := by decide +kernel
theorem dX11_adjourn_20 : decode cX11_adjourn 20 = .ok (.getfield 30, 3) := by decide +kernel
theorem dX11_adjourn_23 : decode cX11_adjourn 23 = .ok (.aload_n 0, 1) := by decide +kernel
theorem dX11_adjourn_24 : decode cX11_adjourn 24 = .ok (.getfield 20, 3) := by decide +kernel
theorem dX11_adjourn_27 : decode cX11_adjourn 27 = .ok (.invokevirtual 204, 3) := by decide +kernel
theorem dX11_adjourn_30 : decode cX11_adjourn 30 = .ok (.iload_n 1, 1) := by decide +kernel
theorem dX11_adjourn_31 : decode cX11_adjourn 31 = .ok (.ireturn, 1) := by decide +kernel
theorem dX11_undo_0 : decode cX11_undo 0 = .ok (.iload_n 1, 1) := by decide +kernel
theorem dX11_undo_1 : decode cX11_undo 1 = .ok (.iconst 1, 1) := by decide +kernel
theorem dX11_undo_2 : decode cX11_undo 2 = .ok (.if_icmp .lt 14, 3) := by decide +kernel
theorem dX11_undo_5 : decode cX11_undo 5 = .ok (.iload_n 1, 1) := by decide +kernel
theorem dX11_undo_6 : decode cX11_undo 6 = .ok (.aload_n 0, 1) := by decide +kernel
theorem dX11_undo_7 : decode cX11_undo 7 = .ok (.getfield 40, 3) := by decide +kernel
theorem dX11_undo_10 : decode cX11_undo 10 = .ok (.getfield 207, 3) := by decide +kernel
theorem dX11_undo_13 : decode cX11_undo 13 = .ok (.if_icmp .le 6, 3) := by decide +kernel
theorem dX11_undo_16 : decode cX11_undo 16 = .ok (.bipush (-3), 2) := by decide +kernel
theorem dX11_undo_18 : decode cX11_undo 18 = .ok (.ireturn, 1) := by decide +kernel
theorem dX11_undo_19 : decode cX11_undo 19 = .ok (.aload_n 0, 1) := by decide +kernel
theorem dX11_undo_20 : decode cX11_undo 20 = .ok (.getfield 40, 3) := by decide +kernel
theorem dX11_undo_23 : decode cX11_undo 23 = .ok (.iload_n 1, 1) := by decide +kernel
theorem dX11_undo_24 : decode cX11_undo 24 = .ok (.aload_n 0, 1) := by decide +kernel
theorem dX11_undo_25 : decode cX11_undo 25 = .ok (.getfield 30, 3) := by decide +kernel
theorem dX11_undo_28 : decode cX11_undo 28 = .ok (.invokevirtual 210, 3) := by decide +kernel
theorem dX11_undo_31 : decode cX11_undo 31 = .ok (.aload_n 0, 1) := by decide +kernel
theorem dX11_undo_32 : decode cX11_undo 32 = .ok (.getfield 40, 3) := by decide +kernel
theorem dX11_undo_35 : decode cX11_undo 35 = .ok (.getfield 207, 3) := by decide +kernel
theorem dX11_undo_38 : decode cX11_undo 38 = .ok (.ireturn, 1) := by decide +kernel
def dG (ct c : mbCt) : Prop := ∀ x : Int, (x < 12 ∨ 37 < x) → x ∉ ([68, 69, 72, 73, 75, 76] : List Int) → c x = ct x
theorem dG.tr {a b c : mbCt} (h : dG a b) (h2 : dG b c) : dG a c := fun x h0 h1 => (h2 x h0 h1).trans (h x h0 h1)
theorem dG.rf {a : mbCt} : dG a a := fun _ _ _ => rfl
theorem dE.g {a : Int} {ct c : mbCt} (h : dE a ct c) (ha : a = 12 ∨ a = 14) : dG ct c := fun x h0 h1 => h.1 x (by simp at h1 ⊢; omega)
section
variable (d : Nat) (sh : mbSh) (ct : mbCt) {b : Int} {β : Bk} {s z : Sit} {q : Int} {N : Nat} {V n : Int} {pl : Int → Sit}
theorem x_become (S : SH sh) (X : CX sh ct b β s q N V) : Mt YX8_become (d + 1) [.inr (.inr 14), .inr (.inr 12)] sh sh ct (pN fun c => CX sh c b β s q N V ∧ sitC c 14 s ∧ eqBut [14, 15] ct c) := by
  have L := X.L
  have hs := X.2.1
  refine Mt.imp (c_become d sh ct (sitAt_n S L (Or.inr rfl)) (sitAt_n S L (Or.inl rfl))) ?_
  rintro r c ⟨rfl, rfl⟩
  have oth : ∀ x, x ≠ 14 → x ≠ 15 → beC ct 14 12 x = ct x := fun x h1 h2 => by
    funext j
    unfold beC
    rw [if_neg (by omega), if_neg (by omega), if_neg (by omega)]
  have k0 : beC ct 14 12 14 0 = s.1 := by
    unfold beC
    rw [if_pos ⟨rfl, rfl⟩]
    exact hs.1
  have k1 : beC ct 14 12 14 1 = s.2.1 := by
    unfold beC
    rw [if_neg (by decide), if_pos ⟨rfl, rfl⟩]
    exact hs.2.1
  have k2 : beC ct 14 12 14 2 = ct 14 2 := by
    unfold beC
    rw [if_neg (by decide), if_neg (by decide), if_neg (by decide)]
  have km : ∀ m, 0 ≤ m → m < 6 → beC ct 14 12 15 m = s.2.2 m := fun m m0 m1 => by
    unfold beC
    rw [if_neg (by omega), if_neg (by omega), if_pos ⟨rfl, m0, m1⟩]
    exact hs.2.2 m m0 m1
  have hL : LK (beC ct 14 12) := by
    intro x k v hv
    by_cases hx : x = 14
    · subst hx
      by_cases h0 : k = 0
      · subst h0; cases hv
      · by_cases h1 : k = 1
        · subst h1; cases hv
        · have : beC ct 14 12 14 k = ct 14 k := by
            unfold beC
            rw [if_neg (by omega), if_neg (by omega), if_neg (by omega)]
          rw [this]
          exact L _ _ _ hv
    · by_cases hx2 : x = 15
      · subst hx2
        have := lk_mrk (a := 14) (k := k) (Or.inr rfl)
        rw [show (14 : Int) + 1 = 15 from rfl, hv] at this
        cases this
      · rw [oth x hx hx2]
        exact L _ _ _ hv
  generalize beC ct 14 12 = c at *
  refine ⟨rfl, X.sit hL (by rw [oth 0 (by decide) (by decide)]) (fun x h1 h2 => oth x (by omega) (by omega)) (fun x h1 => oth x (by omega) (by omega)) (hs.cg (oth 12 (by decide) (by decide)) (oth 13 (by decide) (by decide))) X.2.2.1.1 X.2.2.1.2.1, ⟨k0, k1, km⟩, fun x hx => oth x (by simp at hx; omega) (by simp at hx; omega)⟩
theorem plC_oth {o x : Int} (h : x < 16 ∨ 37 < x) : plC ct o x = ct x := by
  funext j
  have hr : 0 ≤ (plE ct + plN ct) % 10 ∧ (plE ct + plN ct) % 10 < 10 := by omega
  unfold plC
  rw [if_neg (by omega), if_neg (by omega)]
  unfold beC
  rw [if_neg (by omega), if_neg (by omega), if_neg (by omega)]
theorem lk_ring : ∀ i : Fin 10, ∀ k : Fin 2, lkF (18 + 2 * (i.val : Int)) (k.val : Int) = none := by decide +kernel
theorem lk_ringR (i : Nat) (hi : i < 10) (k : Int) : lkF (18 + 2 * (i : Int) + 1) k = none := by
  rcases (show i = 0 ∨ i = 1 ∨ i = 2 ∨ i = 3 ∨ i = 4 ∨ i = 5 ∨ i = 6 ∨ i = 7 ∨ i = 8 ∨ i = 9 by omega) with rfl | rfl | rfl | rfl | rfl | rfl | rfl | rfl | rfl | rfl <;>
  · unfold lkF
    split
    · show (([] : List (Option Int))[k.toNat]?).getD none = none
      simp
    · rfl
theorem plC_L {o : Int} (L : LK ct) : LK (plC ct o) := by
  intro x k v hv
  obtain ⟨i, hi, hi2⟩ : ∃ i : Nat, (plE ct + plN ct) % 10 = i ∧ i < 10 := ⟨((plE ct + plN ct) % 10).toNat, by omega, by omega⟩
  unfold plC
  rw [if_neg (fun z => by rw [z.1, z.2] at hv; cases hv), if_neg (fun z => by rw [z.1, z.2] at hv; cases hv)]
  unfold beC
  rw [hi]
  rw [if_neg (fun z => by
    have := lk_ring ⟨i, hi2⟩ ⟨0, by decide⟩
    rw [z.1, z.2] at hv
    rw [show lkF (18 + 2 * (i : Int)) 0 = none from this] at hv
    cases hv), if_neg (fun z => by
    have := lk_ring ⟨i, hi2⟩ ⟨1, by decide⟩
    rw [z.1, z.2] at hv
    rw [show lkF (18 + 2 * (i : Int)) 1 = none from this] at hv
    cases hv), if_neg (fun z => by
    rw [z.1, lk_ringR i hi2 k] at hv
    cases hv)]
  exact L x k v hv
theorem x_pileAdd {o : Int} {w : Sit} (S : SH sh) (X : CX sh ct b β s q N V) (P : PC ct β n pl) (ho : o = 12 ∨ o = 14) (hw : sitC ct o w) (hB : sitB w) (hc : cnM β w.2.2) : Mt YX5_add (d + 2) [.inr (.inr 16), .inr (.inr o)] sh sh ct (pN fun c => CX sh c b β s q N V ∧ PC c β (pushN n) (pushP n pl w) ∧ ∀ x : Int, (x < 16 ∨ 37 < x) → c x = ct x) := by
  have L := X.L
  have h1 := P.1
  have h2 := P.2.1
  have h3 := P.2.2.1
  refine Mt.imp (c_pileAdd d sh ct S L (sitAt_n S L ho) h1.1 h1.2 (by omega) (by omega)) ?_
  rintro r c ⟨rfl, rfl⟩
  have oth : ∀ x : Int, (x < 16 ∨ 37 < x) → plC ct o x = ct x := fun x hx => plC_oth ct hx
  exact ⟨rfl, X.sit (plC_L ct L) (by rw [oth 0 (by omega)]) (fun x h1 h2 => oth x (by omega)) (fun x h1 => oth x (by omega)) (X.2.1.cg (oth 12 (by omega)) (oth 13 (by omega))) X.2.2.1.1 X.2.2.1.2.1, P.push ho hw hB hc, oth⟩
/-- the class as a whole: book, sitting, pile -/
def CP (sh : mbSh) (ct : mbCt) (b : Int) (β : Bk) (s : Sit) (n : Int) (pl : Int → Sit) (q : Int) (N : Nat) (V : Int) : Prop := CX sh ct b β s q N V ∧ PC ct β n pl
theorem x_say {m y : Int} (S : SH sh) (C : CP sh ct b β s n pl q N V) (hm : i32 m) (hy : i32 y) : Mt YX11_say (d + 3) [.inr (.inr 0), .inl m, .inl y] sh sh ct (pI fun r c => ((whyS β s m y ≠ 0 ∧ r = -10 - whyS β s m y ∧ CP sh c b β s n pl q N V) ∨ (whyS β s m y = 0 ∧ r = nxB β s.1 m y / 7 ∧ CP sh c b β (sayS β s m y) (pushN n) (pushP n pl s) q N V)) ∧ dG ct c) := by
  obtain ⟨X, P⟩ := C
  have L := X.L
  have hB := X.2.2.1.1
  have hcn := X.2.2.1.2.1
  have hwi := whyS_in β s m y
  generalize hP : (pI fun r c => ((whyS β s m y ≠ 0 ∧ r = -10 - whyS β s m y ∧ CP sh c b β s n pl q N V) ∨ (whyS β s m y = 0 ∧ r = nxB β s.1 m y / 7 ∧ CP sh c b β (sayS β s m y) (pushN n) (pushP n pl s) q N V)) ∧ dG ct c) = Po
  refine Mt.of rfl (Nat.le_of_ble_eq_true rfl) ?_
  show G _ 0 [some (.inr (.inr 0)), some (.inl m), some (.inl y), none] [] sh ct
  refine g_aload_n (q := 1) dX11_say_0 rfl rfl ?_
  refine g_getO (q := 4) (kI := 5) fX11_34 (by first | assumption | exact S.at _ rfl) dX11_say_1 rfl rfl (by first | assumption | exact L.at _ _ rfl | exact LK.at (by assumption) _ _ rfl | ((repeat first | rewrite [wr_na (by decide)] | rewrite [wr_nk (by decide)] | rewrite [wa_na (by decide)]); first | assumption | exact LK.at (by assumption) _ _ rfl) | exact rfl) ?_
  refine g_aload_n (q := 5) dX11_say_4 rfl rfl ?_
  refine g_getO (q := 8) (kI := 4) fX11_30 (by first | assumption | exact S.at _ rfl) dX11_say_5 rfl rfl (by first | assumption | exact L.at _ _ rfl | exact LK.at (by assumption) _ _ rfl | ((repeat first | rewrite [wr_na (by decide)] | rewrite [wr_nk (by decide)] | rewrite [wa_na (by decide)]); first | assumption | exact LK.at (by assumption) _ _ rfl) | exact rfl) ?_
  refine g_callV (q := 11) lX11_184 mX8_become nX8_become rfl (x_become (d + 1) sh _ S X) (by first | assumption | exact S.at _ rfl) rfl rfl shLe.rf (rmOk.mk (by omega) (by first | exact shLe.rf | assumption)) (Nat.le_of_ble_eq_true rfl) dX11_say_8 rfl rfl (kN fun c1 hp => ?_)
  obtain ⟨X1, h14, e1⟩ := hp
  have L1 := X1.L
  have P1 : PC c1 β n pl := P.cg (fun x h0 h1 => e1 x (by simp; omega))
  refine g_aload_n (q := 12) dX11_say_11 rfl rfl ?_
  refine g_aload_n (q := 13) dX11_say_12 rfl rfl ?_
  refine g_getO (q := 16) (kI := 4) fX11_30 (by first | assumption | exact S.at _ rfl) dX11_say_13 rfl rfl (by first | assumption | exact L.at _ _ rfl | exact LK.at (by assumption) _ _ rfl | ((repeat first | rewrite [wr_na (by decide)] | rewrite [wr_nk (by decide)] | rewrite [wa_na (by decide)]); first | assumption | exact LK.at (by assumption) _ _ rfl) | exact rfl) ?_
  refine g_iload_n (q := 17) dX11_say_16 rfl rfl ?_
  refine g_iload_n (q := 18) dX11_say_17 rfl rfl ?_
  refine g_callV (q := 21) lX11_188 mX11_trySaying nX11_trySaying rfl (x_trySaying d sh _ S X1 (Or.inl ⟨rfl, rfl⟩) X1.2.1 hB hcn hm hy) (by first | assumption | exact S.at _ rfl) rfl rfl shLe.rf (rmOk.mk (by omega) (by first | exact shLe.rf | assumption)) (Nat.le_of_ble_eq_true rfl) dX11_say_18 rfl rfl (kI fun r c2 hp => ?_)
  obtain ⟨rfl, ⟨s', hs', X2⟩, h12, e2⟩ := hp
  have L2 := X2.L
  have hse : s' = if whyS β s m y = 0 then sayS β s m y else s := by
    rcases hs' with h | h
    · exact absurd h.1 (by decide)
    · exact h.2
  have P2 : PC c2 β n pl := P1.cg (fun x h0 h1 => e2.1 x (by simp; omega))
  have g2 : dG ct c2 := fun x h0 h1 => (e2.1 x (by simp at h1 ⊢; omega)).trans (e1 x (by simp; omega))
  have h14' : sitC c2 14 s := h14.cg (e2.1 14 (by decide)) (e2.1 15 (by decide))
  refine s_istore_n_4_3 (q := 22) dX11_say_21 rfl rfl rfl ?_
  refine g_iload_n (q := 23) dX11_say_22 rfl rfl ?_
  refine g_if_eq (q := 26) (tg := 31) dX11_say_23 (by decide) rfl (fun c_23 => ?_) (fun c_23 => ?_)
  · have h0 : whyS β s m y = 0 := by unfold w32 at c_23; omega
    rw [if_pos h0] at hse
    subst hse
    refine g_aload_n (q := 32) dX11_say_31 rfl rfl ?_
    refine g_getO (q := 35) (kI := 6) fX11_40 (by first | assumption | exact S.at _ rfl) dX11_say_32 rfl rfl (by first | assumption | exact L.at _ _ rfl | exact LK.at (by assumption) _ _ rfl | ((repeat first | rewrite [wr_na (by decide)] | rewrite [wr_nk (by decide)] | rewrite [wa_na (by decide)]); first | assumption | exact LK.at (by assumption) _ _ rfl) | exact rfl) ?_
    refine g_aload_n (q := 36) dX11_say_35 rfl rfl ?_
    refine g_getO (q := 39) (kI := 5) fX11_34 (by first | assumption | exact S.at _ rfl) dX11_say_36 rfl rfl (by first | assumption | exact L.at _ _ rfl | exact LK.at (by assumption) _ _ rfl | ((repeat first | rewrite [wr_na (by decide)] | rewrite [wr_nk (by decide)] | rewrite [wa_na (by decide)]); first | assumption | exact LK.at (by assumption) _ _ rfl) | exact rfl) ?_
    refine g_callV (q := 42) lX11_192 mX5_add nX5_add rfl (x_pileAdd d sh _ S X2 P2 (Or.inr rfl) h14' hB hcn) (by first | assumption | exact S.at _ rfl) rfl rfl shLe.rf (rmOk.mk (by omega) (by first | exact shLe.rf | assumption)) (Nat.le_of_ble_eq_true rfl) dX11_say_39 rfl rfl (kN fun c3 hp => ?_)
    obtain ⟨X3, P3, e3⟩ := hp
    have L3 := X3.L
    have hst : c3 12 0 = nxB β s.1 m y := X3.2.1.1
    have hrg := X3.2.2.1.1.1
    refine g_aload_n (q := 43) dX11_say_42 rfl rfl ?_
    refine g_getO (q := 46) (kI := 4) fX11_30 (by first | assumption | exact S.at _ rfl) dX11_say_43 rfl rfl (by first | assumption | exact L.at _ _ rfl | exact LK.at (by assumption) _ _ rfl | ((repeat first | rewrite [wr_na (by decide)] | rewrite [wr_nk (by decide)] | rewrite [wa_na (by decide)]); first | assumption | exact LK.at (by assumption) _ _ rfl) | exact rfl) ?_
    refine g_getI (q := 49) (kI := 0) fX11_151 (by first | assumption | exact S.at _ rfl) dX11_say_46 rfl rfl ?_
    rw [hst]
    refine g_callS (q := 52) lX11_195 mX11_moodShown sX11_moodShown rfl (c_moodShown (d + 2) sh _ hrg.1 (by have := hrg.2; show nxB β s.1 m y < _; exact Int.lt_trans this (by decide))) shLe.rf (rmOk.mk (by omega) (by first | exact shLe.rf | assumption)) (Nat.le_of_ble_eq_true rfl) dX11_say_49 rfl rfl (kI fun r_ c_ hp => ?_)
    obtain ⟨hr, hq⟩ := hp
    replace hr := hr.symm
    replace hq := hq.symm
    subst hr hq
    refine g_ireturn dX11_say_52 rfl ?_
    rw [← hP]
    exact ⟨_, rfl, Or.inr ⟨h0, rfl, X3, P3⟩, g2.tr (fun x h0 h1 => e3 x (by omega))⟩
  · have h0 : whyS β s m y ≠ 0 := fun z => c_23 (by rw [z]; rfl)
    rw [if_neg h0] at hse
    subst hse
    refine g_bipush (q := 28) dX11_say_26 (by decide +kernel) rfl ?_
    refine g_iload_n (q := 29) dX11_say_28 rfl rfl ?_
    refine g_isub (q := 30) dX11_say_29 rfl ?_
    refine g_ireturn dX11_say_30 rfl ?_
    rw [← hP]
    exact ⟨_, rfl, Or.inl ⟨h0, rfl, X2, P2⟩, g2⟩
theorem x_mark {m v : Int} (S : SH sh) (C : CP sh ct b β s n pl q N V) (hm : i32 m) (hv : i32 v) : Mt YX11_mark (d + 3) [.inr (.inr 0), .inl m, .inl v] sh sh ct (pI fun r c => ((¬ mrkOk β m v ∧ r = -11 ∧ CP sh c b β s n pl q N V) ∨ (mrkOk β m v ∧ r = s.2.2 m ∧ CP sh c b β (mrkS s m v) (pushN n) (pushP n pl s) q N V)) ∧ dG ct c) := by
  obtain ⟨X, P⟩ := C
  have L := X.L
  have hB := X.2.2.1.1
  have hcn := X.2.2.1.2.1
  have hb2 := X.2.2.1.2.2.2.2.1
  generalize hP : (pI fun r c => ((¬ mrkOk β m v ∧ r = -11 ∧ CP sh c b β s n pl q N V) ∨ (mrkOk β m v ∧ r = s.2.2 m ∧ CP sh c b β (mrkS s m v) (pushN n) (pushP n pl s) q N V)) ∧ dG ct c) = Po
  refine Mt.of rfl (Nat.le_of_ble_eq_true rfl) ?_
  show G _ 0 [some (.inr (.inr 0)), some (.inl m), some (.inl v), none] [] sh ct
  refine g_aload_n (q := 1) dX11_mark_0 rfl rfl ?_
  refine g_getO (q := 4) (kI := 5) fX11_34 (by first | assumption | exact S.at _ rfl) dX11_mark_1 rfl rfl (by first | assumption | exact L.at _ _ rfl | exact LK.at (by assumption) _ _ rfl | ((repeat first | rewrite [wr_na (by decide)] | rewrite [wr_nk (by decide)] | rewrite [wa_na (by decide)]); first | assumption | exact LK.at (by assumption) _ _ rfl) | exact rfl) ?_
  refine g_aload_n (q := 5) dX11_mark_4 rfl rfl ?_
  refine g_getO (q := 8) (kI := 4) fX11_30 (by first | assumption | exact S.at _ rfl) dX11_mark_5 rfl rfl (by first | assumption | exact L.at _ _ rfl | exact LK.at (by assumption) _ _ rfl | ((repeat first | rewrite [wr_na (by decide)] | rewrite [wr_nk (by decide)] | rewrite [wa_na (by decide)]); first | assumption | exact LK.at (by assumption) _ _ rfl) | exact rfl) ?_
  refine g_callV (q := 11) lX11_184 mX8_become nX8_become rfl (x_become (d + 1) sh _ S X) (by first | assumption | exact S.at _ rfl) rfl rfl shLe.rf (rmOk.mk (by omega) (by first | exact shLe.rf | assumption)) (Nat.le_of_ble_eq_true rfl) dX11_mark_8 rfl rfl (kN fun c1 hp => ?_)
  obtain ⟨X1, h14, e1⟩ := hp
  have L1 := X1.L
  have P1 : PC c1 β n pl := P.cg (fun x h0 h1 => e1 x (by simp; omega))
  have g1 : dG ct c1 := fun x h0 h1 => e1 x (by simp; omega)
  refine g_aload_n (q := 12) dX11_mark_11 rfl rfl ?_
  refine g_aload_n (q := 13) dX11_mark_12 rfl rfl ?_
  refine g_getO (q := 16) (kI := 4) fX11_30 (by first | assumption | exact S.at _ rfl) dX11_mark_13 rfl rfl (by first | assumption | exact L.at _ _ rfl | exact LK.at (by assumption) _ _ rfl | ((repeat first | rewrite [wr_na (by decide)] | rewrite [wr_nk (by decide)] | rewrite [wa_na (by decide)]); first | assumption | exact LK.at (by assumption) _ _ rfl) | exact rfl) ?_
  refine g_iload_n (q := 17) dX11_mark_16 rfl rfl ?_
  refine g_iload_n (q := 18) dX11_mark_17 rfl rfl ?_
  refine g_callV (q := 21) lX11_198 mX11_tryMarking nX11_tryMarking rfl (x_tryMarking (d + 1) sh _ S X1 (Or.inl ⟨rfl, rfl⟩) X1.2.1 hB hcn hm hv) (by first | assumption | exact S.at _ rfl) rfl rfl shLe.rf (rmOk.mk (by omega) (by first | exact shLe.rf | assumption)) (Nat.le_of_ble_eq_true rfl) dX11_mark_18 rfl rfl (kI fun r c2 hp => ?_)
  rcases hp with ⟨h1, rfl, rfl⟩ | ⟨h1, rfl, ⟨s', hs', X2⟩, h12, e2⟩
  · refine s_istore_n_4_3 (q := 22) dX11_mark_21 rfl rfl rfl ?_
    refine g_iload_n (q := 23) dX11_mark_22 rfl rfl ?_
    refine g_if_ne (q := 26) (tg := 34) dX11_mark_23 (by decide) rfl (fun c_23 => ?_) (fun c_23 => ?_)
    · refine g_bipush (q := 36) dX11_mark_34 (by decide +kernel) rfl ?_
      refine g_ireturn dX11_mark_36 rfl ?_
      rw [← hP]
      exact ⟨_, rfl, Or.inl ⟨h1, rfl, X1, P1⟩, g1⟩
    · exact absurd c_23 (by decide)
  · have L2 := X2.L
    have hse : s' = mrkS s m v := by
      rcases hs' with h | h
      · exact absurd h.1 (by decide)
      · exact h.2
    subst hse
    have P2 : PC c2 β n pl := P1.cg (fun x h0 h1 => e2.1 x (by simp; omega))
    have g2 : dG ct c2 := g1.tr (fun x h0 h1 => e2.1 x (by simp at h1 ⊢; omega))
    have h14' : sitC c2 14 s := h14.cg (e2.1 14 (by decide)) (e2.1 15 (by decide))
    refine s_istore_n_4_3 (q := 22) dX11_mark_21 rfl rfl rfl ?_
    refine g_iload_n (q := 23) dX11_mark_22 rfl rfl ?_
    refine g_if_ne (q := 26) (tg := 34) dX11_mark_23 (by decide) rfl (fun c_23 => ?_) (fun c_23 => ?_)
    · exact absurd rfl c_23
    · refine g_aload_n (q := 27) dX11_mark_26 rfl rfl ?_
      refine g_iload_n (q := 28) dX11_mark_27 rfl rfl ?_
      refine g_callV (q := 31) lX11_135 mX11_isMember nX11_isMember rfl (x_isMember (d + 2) sh _ S X2 hm) (by first | assumption | exact S.at _ rfl) rfl rfl shLe.rf (rmOk.mk (by omega) (by first | exact shLe.rf | assumption)) (Nat.le_of_ble_eq_true rfl) dX11_mark_28 rfl rfl (kI fun r_ c_ hp => ?_)
      obtain ⟨hr, hq⟩ := hp
      replace hr := hr.symm
      replace hq := hq.symm
      subst hr hq
      refine g_if_ne (q := 34) (tg := 37) dX11_mark_31 (by decide) rfl (fun c_31 => ?_) (fun c_31 => ?_)
      · refine g_aload_n (q := 38) dX11_mark_37 rfl rfl ?_
        refine g_getO (q := 41) (kI := 6) fX11_40 (by first | assumption | exact S.at _ rfl) dX11_mark_38 rfl rfl (by first | assumption | exact L.at _ _ rfl | exact LK.at (by assumption) _ _ rfl | ((repeat first | rewrite [wr_na (by decide)] | rewrite [wr_nk (by decide)] | rewrite [wa_na (by decide)]); first | assumption | exact LK.at (by assumption) _ _ rfl) | exact rfl) ?_
        refine g_aload_n (q := 42) dX11_mark_41 rfl rfl ?_
        refine g_getO (q := 45) (kI := 5) fX11_34 (by first | assumption | exact S.at _ rfl) dX11_mark_42 rfl rfl (by first | assumption | exact L.at _ _ rfl | exact LK.at (by assumption) _ _ rfl | ((repeat first | rewrite [wr_na (by decide)] | rewrite [wr_nk (by decide)] | rewrite [wa_na (by decide)]); first | assumption | exact LK.at (by assumption) _ _ rfl) | exact rfl) ?_
        refine g_callV (q := 48) lX11_192 mX5_add nX5_add rfl (x_pileAdd d sh _ S X2 P2 (Or.inr rfl) h14' hB hcn) (by first | assumption | exact S.at _ rfl) rfl rfl shLe.rf (rmOk.mk (by omega) (by first | exact shLe.rf | assumption)) (Nat.le_of_ble_eq_true rfl) dX11_mark_45 rfl rfl (kN fun c3 hp => ?_)
        obtain ⟨X3, P3, e3⟩ := hp
        have L3 := X3.L
        have s15 : shA sh 15 = some (20, 6) := S.at _ rfl
        have h15 : c3 15 m = s.2.2 m := by
          rw [e3 15 (by omega)]
          exact h14'.2.2 m h1.1.1 (by have := h1.1.2; omega)
        have hm0 := h1.1.1
        have hm1 := h1.1.2
        refine g_aload_n (q := 49) dX11_mark_48 rfl rfl ?_
        refine g_getO (q := 52) (kI := 5) fX11_34 (by first | assumption | exact S.at _ rfl) dX11_mark_49 rfl rfl (by first | assumption | exact L.at _ _ rfl | exact LK.at (by assumption) _ _ rfl | ((repeat first | rewrite [wr_na (by decide)] | rewrite [wr_nk (by decide)] | rewrite [wa_na (by decide)]); first | assumption | exact LK.at (by assumption) _ _ rfl) | exact rfl) ?_
        refine g_getA (q := 55) (kI := 2) fX11_139 (by first | assumption | exact S.at _ rfl) dX11_mark_52 rfl rfl (by first | assumption | exact L.at _ _ rfl | exact LK.at (by assumption) _ _ rfl | ((repeat first | rewrite [wr_na (by decide)] | rewrite [wr_nk (by decide)] | rewrite [wa_na (by decide)]); first | assumption | exact LK.at (by assumption) _ _ rfl) | exact rfl) ?_
        refine g_iload_n (q := 56) dX11_mark_55 rfl rfl ?_
        refine g_iaload (q := 57) (by first | assumption | exact S.at _ rfl) (by omega) (by omega) (by omega) dX11_mark_56 rfl ?_
        refine g_ireturn dX11_mark_57 rfl ?_
        rw [← hP]
        exact ⟨_, rfl, Or.inr ⟨h1, h15, X3, P3⟩, g2.tr (fun x h0 h1 => e3 x (by omega))⟩
      · exact absurd h1.1 (wb0.mp c_31)
theorem x_adjourn (S : SH sh) (C : CP sh ct b β s n pl q N V) : Mt YX11_adjourn (d + 3) [.inr (.inr 0)] sh sh ct (pI fun r c => r = s.2.1 ∧ CP sh c b β (adjS β s) (pushN n) (pushP n pl s) q N V ∧ dG ct c) := by
  obtain ⟨X, P⟩ := C
  have L := X.L
  have hB := X.2.2.1.1
  have hcn := X.2.2.1.2.1
  refine Mt.of rfl (Nat.le_of_ble_eq_true rfl) ?_
  show G _ 0 [some (.inr (.inr 0)), none] [] sh ct
  refine g_aload_n (q := 1) dX11_adjourn_0 rfl rfl ?_
  refine g_getO (q := 4) (kI := 6) fX11_40 (by first | assumption | exact S.at _ rfl) dX11_adjourn_1 rfl rfl (by first | assumption | exact L.at _ _ rfl | exact LK.at (by assumption) _ _ rfl | ((repeat first | rewrite [wr_na (by decide)] | rewrite [wr_nk (by decide)] | rewrite [wa_na (by decide)]); first | assumption | exact LK.at (by assumption) _ _ rfl) | exact rfl) ?_
  refine g_aload_n (q := 5) dX11_adjourn_4 rfl rfl ?_
  refine g_getO (q := 8) (kI := 4) fX11_30 (by first | assumption | exact S.at _ rfl) dX11_adjourn_5 rfl rfl (by first | assumption | exact L.at _ _ rfl | exact LK.at (by assumption) _ _ rfl | ((repeat first | rewrite [wr_na (by decide)] | rewrite [wr_nk (by decide)] | rewrite [wa_na (by decide)]); first | assumption | exact LK.at (by assumption) _ _ rfl) | exact rfl) ?_
  refine g_callV (q := 11) lX11_192 mX5_add nX5_add rfl (x_pileAdd d sh _ S X P (Or.inl rfl) X.2.1 hB hcn) (by first | assumption | exact S.at _ rfl) rfl rfl shLe.rf (rmOk.mk (by omega) (by first | exact shLe.rf | assumption)) (Nat.le_of_ble_eq_true rfl) dX11_adjourn_8 rfl rfl (kN fun c1 hp => ?_)
  obtain ⟨X1, P1, e1⟩ := hp
  have L1 := X1.L
  have h02 := X1.1
  have hsd : c1 12 1 = s.2.1 := X1.2.1.2.1
  refine g_aload_n (q := 12) dX11_adjourn_11 rfl rfl ?_
  refine g_getO (q := 15) (kI := 4) fX11_30 (by first | assumption | exact S.at _ rfl) dX11_adjourn_12 rfl rfl (by first | assumption | exact L.at _ _ rfl | exact LK.at (by assumption) _ _ rfl | ((repeat first | rewrite [wr_na (by decide)] | rewrite [wr_nk (by decide)] | rewrite [wa_na (by decide)]); first | assumption | exact LK.at (by assumption) _ _ rfl) | exact rfl) ?_
  refine g_getI (q := 18) (kI := 1) fX11_201 (by first | assumption | exact S.at _ rfl) dX11_adjourn_15 rfl rfl ?_
  rw [hsd]
  refine s_istore_n_2_1 (q := 19) dX11_adjourn_18 rfl rfl rfl ?_
  refine g_aload_n (q := 20) dX11_adjourn_19 rfl rfl ?_
  refine g_getO (q := 23) (kI := 4) fX11_30 (by first | assumption | exact S.at _ rfl) dX11_adjourn_20 rfl rfl (by first | assumption | exact L.at _ _ rfl | exact LK.at (by assumption) _ _ rfl | ((repeat first | rewrite [wr_na (by decide)] | rewrite [wr_nk (by decide)] | rewrite [wa_na (by decide)]); first | assumption | exact LK.at (by assumption) _ _ rfl) | exact rfl) ?_
  refine g_aload_n (q := 24) dX11_adjourn_23 rfl rfl ?_
  refine g_getO (q := 27) (kI := 2) fX11_20 (by first | assumption | exact S.at _ rfl) dX11_adjourn_24 rfl rfl (by first | assumption | exact L.at _ _ rfl | exact LK.at (by assumption) _ _ rfl | ((repeat first | rewrite [wr_na (by decide)] | rewrite [wr_nk (by decide)] | rewrite [wa_na (by decide)]); first | assumption | exact LK.at (by assumption) _ _ rfl) | exact rfl) ?_
  refine g_callV (q := 30) lX11_204 mX8_adjournTo nX8_adjournTo rfl (x_adjournTo (d + 1) sh _ S X1 (Or.inl ⟨rfl, rfl⟩) X1.2.1 hB hcn) (by first | assumption | exact S.at _ rfl) rfl rfl shLe.rf (rmOk.mk (by omega) (by first | exact shLe.rf | assumption)) (Nat.le_of_ble_eq_true rfl) dX11_adjourn_27 rfl rfl (kN fun c2 hp => ?_)
  obtain ⟨⟨s', hs', X2⟩, h12, e2⟩ := hp
  have hse : s' = adjS β s := by
    rcases hs' with h | h
    · exact absurd h.1 (by decide)
    · exact h.2
  subst hse
  refine g_iload_n (q := 31) dX11_adjourn_30 rfl rfl ?_
  refine g_ireturn dX11_adjourn_31 rfl ?_
  exact ⟨_, rfl, rfl, ⟨X2, P1.cg (fun x h0 h1 => e2.1 x (by simp; omega))⟩, fun x h0 h1 => (e2.1 x (by simp at h1 ⊢; omega)).trans (e1 x (by omega))⟩
theorem x_undo {v : Int} (S : SH sh) (C : CP sh ct b β s n pl q N V) (hv : i32 v) : Mt YX11_undo (d + 3) [.inr (.inr 0), .inl v] sh sh ct (pI fun r c => ((¬ (1 ≤ v ∧ v ≤ n) ∧ r = -3 ∧ CP sh c b β s n pl q N V) ∨ ((1 ≤ v ∧ v ≤ n) ∧ r = n - v ∧ CP sh c b β (pl (n - v)) (n - v) pl q N V)) ∧ dG ct c) := by
  obtain ⟨X, P⟩ := C
  have L := X.L
  have p1 := P.1
  have p2 := P.2.1
  have p3 := P.2.2.1
  unfold i32 at hv
  have wv := w32_id hv.1 hv.2
  have wn : w32 n = n := w32_id (by omega) (by omega)
  generalize hP : (pI fun r c => ((¬ (1 ≤ v ∧ v ≤ n) ∧ r = -3 ∧ CP sh c b β s n pl q N V) ∨ ((1 ≤ v ∧ v ≤ n) ∧ r = n - v ∧ CP sh c b β (pl (n - v)) (n - v) pl q N V)) ∧ dG ct c) = Po
  have bad : ¬ (1 ≤ v ∧ v ≤ n) → G (mkK YX11_undo (d + 3) sh sh Po) 16 [some (.inr (.inr 0)), some (.inl v)] [] sh ct := by
    intro h
    refine g_bipush (q := 18) dX11_undo_16 (by decide +kernel) rfl ?_
    refine g_ireturn dX11_undo_18 rfl ?_
    rw [← hP]
    exact ⟨_, rfl, Or.inl ⟨h, rfl, X, P⟩, dG.rf⟩
  refine Mt.of rfl (Nat.le_of_ble_eq_true rfl) ?_
  show G _ 0 [some (.inr (.inr 0)), some (.inl v)] [] sh ct
  refine g_iload_n (q := 1) dX11_undo_0 rfl rfl ?_
  refine g_iconst (q := 2) dX11_undo_1 rfl ?_
  refine g_icmp_lt (q := 5) (tg := 16) dX11_undo_2 (by decide) rfl (fun c_2 => ?_) (fun c_2 => ?_)
  · refine bad ?_
    rw [wv, show w32 1 = 1 from rfl] at c_2
    omega
  · rw [wv, show w32 1 = 1 from rfl] at c_2
    refine g_iload_n (q := 6) dX11_undo_5 rfl rfl ?_
    refine g_aload_n (q := 7) dX11_undo_6 rfl rfl ?_
    refine g_getO (q := 10) (kI := 6) fX11_40 (by first | assumption | exact S.at _ rfl) dX11_undo_7 rfl rfl (by first | assumption | exact L.at _ _ rfl | exact LK.at (by assumption) _ _ rfl | ((repeat first | rewrite [wr_na (by decide)] | rewrite [wr_nk (by decide)] | rewrite [wa_na (by decide)]); first | assumption | exact LK.at (by assumption) _ _ rfl) | exact rfl) ?_
    refine g_getI (q := 13) (kI := 2) fX11_207 (by first | assumption | exact S.at _ rfl) dX11_undo_10 rfl rfl ?_
    rw [p2]
    refine g_icmp_le (q := 16) (tg := 19) dX11_undo_13 (by decide) rfl (fun c_13 => ?_) (fun c_13 => ?_)
    · rw [wv, wn] at c_13
      refine g_aload_n (q := 20) dX11_undo_19 rfl rfl ?_
      refine g_getO (q := 23) (kI := 6) fX11_40 (by first | assumption | exact S.at _ rfl) dX11_undo_20 rfl rfl (by first | assumption | exact L.at _ _ rfl | exact LK.at (by assumption) _ _ rfl | ((repeat first | rewrite [wr_na (by decide)] | rewrite [wr_nk (by decide)] | rewrite [wa_na (by decide)]); first | assumption | exact LK.at (by assumption) _ _ rfl) | exact rfl) ?_
      refine g_iload_n (q := 24) dX11_undo_23 rfl rfl ?_
      refine g_aload_n (q := 25) dX11_undo_24 rfl rfl ?_
      refine g_getO (q := 28) (kI := 4) fX11_30 (by first | assumption | exact S.at _ rfl) dX11_undo_25 rfl rfl (by first | assumption | exact L.at _ _ rfl | exact LK.at (by assumption) _ _ rfl | ((repeat first | rewrite [wr_na (by decide)] | rewrite [wr_nk (by decide)] | rewrite [wa_na (by decide)]); first | assumption | exact LK.at (by assumption) _ _ rfl) | exact rfl) ?_
      refine g_callV (q := 31) lX11_210 mX5_takeBack nX5_takeBack rfl (c_takeBack d sh _ S L (sitAt_n S L (Or.inl rfl)) p1.1 p1.2 (by omega) (n := v) (by omega) (by omega)) (by first | assumption | exact S.at _ rfl) rfl rfl shLe.rf (rmOk.mk (by omega) (by first | exact shLe.rf | assumption)) (Nat.le_of_ble_eq_true rfl) dX11_undo_28 rfl rfl (kN fun c1 hp => ?_)
      have hpk := P.2.2.2 (n - v) (by omega) (by omega)
      have e16 : c1 16 1 = ct 16 1 := by
        rw [hp]
        show (if (16 : Int) = 16 ∧ (1 : Int) = 2 then _ else _) = _
        rw [if_neg (by decide)]
        unfold beC
        rw [if_neg (by decide), if_neg (by decide), if_neg (by decide)]
      have e162 : c1 16 2 = n - v := by
        rw [hp]
        show (if (16 : Int) = 16 ∧ (2 : Int) = 2 then _ else _) = _
        rw [if_pos ⟨rfl, rfl⟩, p2]
      have kk : ∀ x j, ¬ (x = 16 ∧ j = 2) → c1 x j = beC ct 12 (18 + 2 * ((ct 16 1 + (n - v)) % 10)) x j := by
        intro x j h
        rw [hp]
        show (if x = 16 ∧ j = 2 then _ else _) = _
        rw [if_neg h, p2]
      have oth : ∀ x, x ≠ 12 → x ≠ 13 → x ≠ 16 → c1 x = ct x := by
        intro x h1 h2 h3
        funext j
        rw [kk x j (fun z => h3 z.1)]
        unfold beC
        rw [if_neg (by omega), if_neg (by omega), if_neg (by omega)]
      have hs2 : sitC c1 12 (pl (n - v)) := by
        refine ⟨?_, ?_, fun m m0 m1 => ?_⟩
        · rw [kk 12 0 (by decide)]
          unfold beC
          rw [if_pos ⟨rfl, rfl⟩]
          exact hpk.1.1
        · rw [kk 12 1 (by decide)]
          unfold beC
          rw [if_neg (by decide), if_pos ⟨rfl, rfl⟩]
          exact hpk.1.2.1
        · rw [kk (12 + 1) m (by omega)]
          unfold beC
          rw [if_neg (by omega), if_neg (by omega), if_pos ⟨rfl, m0, m1⟩]
          exact hpk.1.2.2 m m0 m1
      have hL : LK c1 := by
        intro x k u hu
        by_cases h16 : x = 16 ∧ k = 2
        · rw [h16.1, h16.2] at hu
          cases hu
        · rw [kk x k h16]
          unfold beC
          rw [if_neg (fun z => by rw [z.1, z.2] at hu; cases hu), if_neg (fun z => by rw [z.1, z.2] at hu; cases hu), if_neg (fun z => by rw [z.1, lk_mrk (a := 12) (Or.inl rfl)] at hu; cases hu)]
          exact L x k u hu
      have X1 : CX sh c1 b β (pl (n - v)) q N V := X.sit hL (by rw [oth 0 (by decide) (by decide) (by decide)]) (fun x h1 h2 => oth x (by omega) (by omega) (by omega)) (fun x h1 => oth x (by omega) (by omega) (by omega)) hs2 hpk.2.1 hpk.2.2
      have P1 : PC c1 β (n - v) pl := by
        refine ⟨by rw [e16]; exact p1, e162, by omega, fun k k0 k1 => ?_⟩
        rw [e16]
        have := P.2.2.2 k k0 (by omega)
        exact ⟨this.1.cg (oth _ (by omega) (by omega) (by omega)) (oth _ (by omega) (by omega) (by omega)), this.2⟩
      have L1 := X1.L
      refine g_aload_n (q := 32) dX11_undo_31 rfl rfl ?_
      refine g_getO (q := 35) (kI := 6) fX11_40 (by first | assumption | exact S.at _ rfl) dX11_undo_32 rfl rfl (by first | assumption | exact L.at _ _ rfl | exact LK.at (by assumption) _ _ rfl | ((repeat first | rewrite [wr_na (by decide)] | rewrite [wr_nk (by decide)] | rewrite [wa_na (by decide)]); first | assumption | exact LK.at (by assumption) _ _ rfl) | exact rfl) ?_
      refine g_getI (q := 38) (kI := 2) fX11_207 (by first | assumption | exact S.at _ rfl) dX11_undo_35 rfl rfl ?_
      refine g_ireturn dX11_undo_38 rfl ?_
      rw [← hP]
      exact ⟨_, rfl, Or.inr ⟨⟨by omega, c_13⟩, e162, X1, P1⟩, fun x h0 h1 => oth x (by omega) (by omega) (by omega)⟩
    · refine bad ?_
      rw [wv, wn] at c_13
      omega
end
