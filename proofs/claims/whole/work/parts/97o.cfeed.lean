/-! MinuteBook: feed, numbers, write -/
theorem dX11_numbers_0 : decode cX11_numbers 0 = .ok (.iload_n 1, 1) := by decide +kernel
theorem dX11_numbers_1 : decode cX11_numbers 1 = .ok (.invokestatic 214, 3) := by decide +kernel
theorem dX11_numbers_4 : decode cX11_numbers 4 = .ok (.ifCond .eq 12, 3) := by decide +kernel
theorem dX11_numbers_7 : decode cX11_numbers 7 = .ok (.iload_n 2, 1) := by decide +kernel
theorem dX11_numbers_8 : decode cX11_numbers 8 = .ok (.ifCond .lt 8, 3) := by decide +kernel
theorem dX11_numbers_11 : decode cX11_numbers 11 = .ok (.iload_n 2, 1) := by decide +kernel
theorem dX11_numbers_12 : decode cX11_numbers 12 = .ok (.iconst 4, 1) := by decide +kernel
theorem dX11_numbers_13 : decode cX11_numbers 13 = .ok (.if_icmp .lt 6, 3) := by decide +kernel
theorem dX11_numbers_16 : decode cX11_numbers 16 = .ok (.bipush (-2), 2) := by decide +kernel
theorem dX11_numbers_18 : decode cX11_numbers 18 = .ok (.ireturn, 1) := by decide +kernel
theorem dX11_numbers_19 : decode cX11_numbers 19 = .ok (.iload_n 3, 1) := by decide +kernel
theorem dX11_numbers_20 : decode cX11_numbers 20 = .ok (.ifCond .lt 9, 3) := by decide +kernel
theorem dX11_numbers_23 : decode cX11_numbers 23 = .ok (.iload_n 3, 1) := by decide +kernel
theorem dX11_numbers_24 : decode cX11_numbers 24 = .ok (.bipush 40, 2) := by decide +kernel
theorem dX11_numbers_26 : decode cX11_numbers 26 = .ok (.if_icmp .le 6, 3) := by decide +kernel
theorem dX11_numbers_29 : decode cX11_numbers 29 = .ok (.bipush (-3), 2) := by decide +kernel
theorem dX11_numbers_31 : decode cX11_numbers 31 = .ok (.ireturn, 1) := by decide +kernel
theorem dX11_numbers_32 : decode cX11_numbers 32 = .ok (.aload_n 0, 1) := by decide +kernel
theorem dX11_numbers_33 : decode cX11_numbers 33 = .ok (.getfield 46, 3) := by decide +kernel
theorem dX11_numbers_36 : decode cX11_numbers 36 = .ok (.iload_n 1, 1) := by decide +kernel
theorem dX11_numbers_37 : decode cX11_numbers 37 = .ok (.aaload, 1) := by decide +kernel
theorem dX11_numbers_38 : decode cX11_numbers 38 = .ok (.iload_n 2, 1) := by decide +kernel
theorem dX11_numbers_39 : decode cX11_numbers 39 = .ok (.iload_n 3, 1) := by decide +kernel
theorem dX11_numbers_40 : decode cX11_numbers 40 = .ok (.invokevirtual 409, 3) := by decide +kernel
theorem dX11_numbers_43 : decode cX11_numbers 43 = .ok (.iconst 0, 1) := by decide +kernel
theorem dX11_numbers_44 : decode cX11_numbers 44 = .ok (.ireturn, 1) := by decide +kernel
theorem dX11_write_0 : decode cX11_write 0 = .ok (.aload_n 0, 1) := by decide +kernel
theorem dX11_write_1 : decode cX11_write 1 = .ok (.iload_n 1, 1) := by decide +kernel
theorem dX11_write_2 : decode cX11_write 2 = .ok (.invokevirtual 233, 3) := by decide +kernel
theorem dX11_write_5 : decode cX11_write 5 = .ok (.istore 5, 2) := by decide +kernel
theorem dX11_write_7 : decode cX11_write 7 = .ok (.iload 5, 2) := by decide +kernel
theorem dX11_write_9 : decode cX11_write 9 = .ok (.ifCond .eq 7, 3) := by decide +kernel
theorem dX11_write_12 : decode cX11_write 12 = .ok (.iload 5, 2) := by decide +kernel
theorem dX11_write_14 : decode cX11_write 14 = .ok (.i2l, 1) := by decide +kernel
theorem dX11_write_15 : decode cX11_write 15 = .ok (.lreturn, 1) := by decide +kernel
theorem dX11_write_16 : decode cX11_write 16 = .ok (.iload_n 2, 1) := by decide +kernel
theorem dX11_write_17 : decode cX11_write 17 = .ok (.ifCond .lt 16, 3) := by decide +kernel
theorem dX11_write_20 : decode cX11_write 20 = .ok (.iload_n 2, 1) := by decide +kernel
theorem dX11_write_21 : decode cX11_write 21 = .ok (.aload_n 0, 1) := by decide +kernel
theorem dX11_write_22 : decode cX11_write 22 = .ok (.getfield 46, 3) := by decide +kernel
theorem dX11_write_25 : decode cX11_write 25 = .ok (.iload_n 1, 1) := by decide +kernel
theorem dX11_write_26 : decode cX11_write 26 = .ok (.aaload, 1) := by decide +kernel
theorem dX11_write_27 : decode cX11_write 27 = .ok (.getfield 225, 3) := by decide +kernel
theorem dX11_write_30 : decode cX11_write 30 = .ok (.if_icmp .lt 7, 3) := by decide +kernel
theorem dX11_write_33 : decode cX11_write 33 = .ok (.ldc2_w 412, 3) := by decide +kernel
theorem dX11_write_36 : decode cX11_write 36 = .ok (.lreturn, 1) := by decide +kernel
theorem dX11_write_37 : decode cX11_write 37 = .ok (.aload_n 0, 1) := by decide +kernel
theorem dX11_write_38 : decode cX11_write 38 = .ok (.getfield 46, 3) := by decide +kernel
theorem dX11_write_41 : decode cX11_write 41 = .ok (.iload_n 1, 1) := by decide +kernel
theorem dX11_write_42 : decode cX11_write 42 = .ok (.aaload, 1) := by decide +kernel
theorem dX11_write_43 : decode cX11_write 43 = .ok (.iload_n 2, 1) := by decide +kernel
theorem dX11_write_44 : decode cX11_write 44 = .ok (.lload_n 3, 1) := by decide +kernel
theorem dX11_write_45 : decode cX11_write 45 = .ok (.invokevirtual 414, 3) := by decide +kernel
theorem dX11_write_48 : decode cX11_write 48 = .ok (.lreturn, 1) := by decide +kernel
theorem lk_tr {t k : Int} (t0 : 0 ≤ t) (t1 : t < 4) (hk : k = 1 ∨ k = 2) : lkF (39 + 2 * t) k = none := by
  rcases (show t = 0 ∨ t = 1 ∨ t = 2 ∨ t = 3 by omega) with rfl | rfl | rfl | rfl <;> rcases hk with rfl | rfl <;> rfl
theorem lk_trR {t : Int} (t0 : 0 ≤ t) (t1 : t < 4) (k : Int) : lkF (39 + 2 * t + 1) k = none := by
  rcases (show t = 0 ∨ t = 1 ∨ t = 2 ∨ t = 3 by omega) with rfl | rfl | rfl | rfl <;> exact lkF_none rfl k
/-- nothing but the trays has changed -/
def trG (ct c : mbCt) : Prop := ∀ x : Int, (x < 39 ∨ 46 < x) → c x = ct x
theorem trG.rf {ct : mbCt} : trG ct ct := fun _ _ => rfl
section
variable (d : Nat) (sh : mbSh) (ct : mbCt) {b : Int} {β : Bk} {s z : Sit} {q : Int} {N : Nat} {V n : Int} {pl : Int → Sit} {sz bt : Int → Int} {vl : Int → Int → Int}
theorem CX.trg {c : mbCt} (X : CX sh ct b β s q N V) (hL : LK c) (e : trG ct c) : CX sh c b β s q N V := X.sit hL (by rw [e 0 (by omega)]) (fun x h1 h2 => e x (by omega)) (fun x h1 => e x (by omega)) (X.2.1.cg (e 12 (by omega)) (e 13 (by omega))) X.2.2.1.1 X.2.2.1.2.1
theorem CP.trg {c : mbCt} (C : CP sh ct b β s n pl q N V) (hL : LK c) (e : trG ct c) : CP sh c b β s n pl q N V := ⟨CX.trg sh ct C.1 hL e, C.2.cg (fun x h0 h1 => e x (by omega))⟩
theorem x_feed {a1 a2 a3 a4 a5 tn : Int} (S : SH sh) (L : LK ct) (h1 : ct 0 1 = tn) (t0 : 0 ≤ tn) (t1 : tn ≤ 900) : Mt YX11_feed (d + 1) [.inr (.inr 0), .inl a1, .inl a2, .inl a3, .inl a4, .inl a5] sh sh ct (pI fun r c => (880 < tn ∧ r = -5 ∧ c = ct) ∨ (tn ≤ 880 ∧ r = tn + 20 ∧ c 0 1 = tn + 20 ∧ (∀ k, 0 ≤ k → k < 20 → c 1 (tn + k) % 256 = fdB a1 a2 a3 a4 a5 k) ∧ (∀ j, j < tn → c 1 j = ct 1 j) ∧ (∀ k, k ≠ 1 → c 0 k = ct 0 k) ∧ eqBut [0, 1] ct c)) := by
  have LE : ∀ c : mbCt, (∀ k, k ≠ 1 → c 0 k = ct 0 k) → eqBut [0, 1] ct c → LK c := by
    intro c h2 h3 x k v hv
    by_cases hx : x = 0
    · subst hx
      by_cases hk : k = 1
      · subst hk; cases hv
      · rw [h2 k hk]; exact L _ _ _ hv
    · by_cases hx1 : x = 1
      · subst hx1
        rw [lkF_none rfl k] at hv
        cases hv
      · rw [h3 x (by simp; omega)]
        exact L _ _ _ hv
  have w8m : ∀ z, w8 z % 256 = z % 256 := fun z => by unfold w8; omega
  generalize hP : (pI fun r c => (880 < tn ∧ r = -5 ∧ c = ct) ∨ (tn ≤ 880 ∧ r = tn + 20 ∧ c 0 1 = tn + 20 ∧ (∀ k, 0 ≤ k → k < 20 → c 1 (tn + k) % 256 = fdB a1 a2 a3 a4 a5 k) ∧ (∀ j, j < tn → c 1 j = ct 1 j) ∧ (∀ k, k ≠ 1 → c 0 k = ct 0 k) ∧ eqBut [0, 1] ct c)) = Po
  refine Mt.of rfl (Nat.le_of_ble_eq_true rfl) ?_
  show G _ 0 [some (.inr (.inr 0)), some (.inl a1), some (.inl a2), some (.inl a3), some (.inl a4), some (.inl a5)] [] sh ct
  refine g_aload_n (q := 1) dX11_feed_0 rfl rfl ?_
  refine g_getI (q := 4) (kI := 1) fX11_13 (by first | assumption | exact S.at _ rfl) dX11_feed_1 rfl rfl ?_
  rw [h1]
  refine g_bipush (q := 6) dX11_feed_4 (by decide +kernel) rfl ?_
  refine g_iadd (q := 7) dX11_feed_6 rfl ?_
  refine g_sipush (q := 10) dX11_feed_7 (by decide +kernel) rfl ?_
  refine g_icmp_le (q := 13) (tg := 16) dX11_feed_10 (by decide) rfl (fun c_10 => ?_) (fun c_10 => ?_)
  · have ht : tn ≤ 880 := by unfold w32 at c_10; omega
    refine g_aload_n (q := 17) dX11_feed_16 rfl rfl ?_
    refine g_iload_n (q := 18) dX11_feed_17 rfl rfl ?_
    refine g_callV (q := 21) lX11_108 mX11_tapeInt nX11_tapeInt rfl (x_tapeInt d sh _ S L h1 t0 (by omega)) (by first | assumption | exact S.at _ rfl) rfl rfl shLe.rf (rmOk.mk (by omega) (by first | exact shLe.rf | assumption)) (Nat.le_of_ble_eq_true rfl) dX11_feed_18 rfl rfl (kN fun c1 hp => ?_)
    obtain ⟨p1, p2, p3, p4, p5⟩ := hp
    refine g_aload_n (q := 22) dX11_feed_21 rfl rfl ?_
    refine g_iload_n (q := 23) dX11_feed_22 rfl rfl ?_
    refine g_callV (q := 26) lX11_108 mX11_tapeInt nX11_tapeInt rfl (x_tapeInt d sh _ S (LE c1 p4 p5) p1 (by omega) (by omega)) (by first | assumption | exact S.at _ rfl) rfl rfl shLe.rf (rmOk.mk (by omega) (by first | exact shLe.rf | assumption)) (Nat.le_of_ble_eq_true rfl) dX11_feed_23 rfl rfl (kN fun c2 hp => ?_)
    obtain ⟨q1, q2, q3, q4, q5⟩ := hp
    have q4' : ∀ k, k ≠ 1 → c2 0 k = ct 0 k := fun k hk => (q4 k hk).trans (p4 k hk)
    have q5' := p5.tr q5
    refine g_aload_n (q := 27) dX11_feed_26 rfl rfl ?_
    refine g_iload_n (q := 28) dX11_feed_27 rfl rfl ?_
    refine g_callV (q := 31) lX11_108 mX11_tapeInt nX11_tapeInt rfl (x_tapeInt d sh _ S (LE c2 q4' q5') q1 (by omega) (by omega)) (by first | assumption | exact S.at _ rfl) rfl rfl shLe.rf (rmOk.mk (by omega) (by first | exact shLe.rf | assumption)) (Nat.le_of_ble_eq_true rfl) dX11_feed_28 rfl rfl (kN fun c3 hp => ?_)
    obtain ⟨r1, r2, r3, r4, r5⟩ := hp
    have r4' : ∀ k, k ≠ 1 → c3 0 k = ct 0 k := fun k hk => (r4 k hk).trans (q4' k hk)
    have r5' := q5'.tr r5
    refine g_aload_n (q := 32) dX11_feed_31 rfl rfl ?_
    refine g_iload (q := 34) dX11_feed_32 rfl rfl ?_
    refine g_callV (q := 37) lX11_108 mX11_tapeInt nX11_tapeInt rfl (x_tapeInt d sh _ S (LE c3 r4' r5') r1 (by omega) (by omega)) (by first | assumption | exact S.at _ rfl) rfl rfl shLe.rf (rmOk.mk (by omega) (by first | exact shLe.rf | assumption)) (Nat.le_of_ble_eq_true rfl) dX11_feed_34 rfl rfl (kN fun c4 hp => ?_)
    obtain ⟨s1, s2, s3, s4, s5⟩ := hp
    have s4' : ∀ k, k ≠ 1 → c4 0 k = ct 0 k := fun k hk => (s4 k hk).trans (r4' k hk)
    have s5' := r5'.tr s5
    refine g_aload_n (q := 38) dX11_feed_37 rfl rfl ?_
    refine g_iload (q := 40) dX11_feed_38 rfl rfl ?_
    refine g_callV (q := 43) lX11_108 mX11_tapeInt nX11_tapeInt rfl (x_tapeInt d sh _ S (LE c4 s4' s5') s1 (by omega) (by omega)) (by first | assumption | exact S.at _ rfl) rfl rfl shLe.rf (rmOk.mk (by omega) (by first | exact shLe.rf | assumption)) (Nat.le_of_ble_eq_true rfl) dX11_feed_40 rfl rfl (kN fun c5 hp => ?_)
    obtain ⟨u1, u2, u3, u4, u5⟩ := hp
    have hfin : c5 0 1 = tn + 20 := by omega
    refine g_aload_n (q := 44) dX11_feed_43 rfl rfl ?_
    refine g_getI (q := 47) (kI := 1) fX11_13 (by first | assumption | exact S.at _ rfl) dX11_feed_44 rfl rfl ?_
    rw [hfin]
    refine g_ireturn dX11_feed_47 rfl ?_
    rw [← hP]
    refine ⟨_, rfl, Or.inr ⟨ht, rfl, hfin, fun k k0 k1 => ?_, fun j hj => ?_, fun k hk => (u4 k hk).trans (s4' k hk), s5'.tr u5⟩⟩
    · unfold fdB
      rcases (show k < 4 ∨ (4 ≤ k ∧ k < 8) ∨ (8 ≤ k ∧ k < 12) ∨ (12 ≤ k ∧ k < 16) ∨ (16 ≤ k) by omega) with h | h | h | h | h
      · rw [if_pos h, show k % 4 = k by omega, u3 _ (by omega), s3 _ (by omega), r3 _ (by omega), q3 _ (by omega), p2 k k0 h]
        exact w8m _
      · have := q2 (k - 4) (by omega) (by omega)
        rw [show tn + 4 + (k - 4) = tn + k by omega] at this
        rw [if_neg (by omega), if_pos h.2, show k % 4 = k - 4 by omega, u3 _ (by omega), s3 _ (by omega), r3 _ (by omega), this]
        exact w8m _
      · have := r2 (k - 8) (by omega) (by omega)
        rw [show tn + 4 + 4 + (k - 8) = tn + k by omega] at this
        rw [if_neg (by omega), if_neg (by omega), if_pos h.2, show k % 4 = k - 8 by omega, u3 _ (by omega), s3 _ (by omega), this]
        exact w8m _
      · have := s2 (k - 12) (by omega) (by omega)
        rw [show tn + 4 + 4 + 4 + (k - 12) = tn + k by omega] at this
        rw [if_neg (by omega), if_neg (by omega), if_neg (by omega), if_pos h.2, show k % 4 = k - 12 by omega, u3 _ (by omega), this]
        exact w8m _
      · have := u2 (k - 16) (by omega) (by omega)
        rw [show tn + 4 + 4 + 4 + 4 + (k - 16) = tn + k by omega] at this
        rw [if_neg (by omega), if_neg (by omega), if_neg (by omega), if_neg (by omega), show k % 4 = k - 16 by omega, this]
        exact w8m _
    · rw [u3 j (by omega), s3 j (by omega), r3 j (by omega), q3 j (by omega), p3 j hj]
  · have ht : 880 < tn := by unfold w32 at c_10; omega
    refine g_bipush (q := 15) dX11_feed_13 (by decide +kernel) rfl ?_
    refine g_ireturn dX11_feed_15 rfl ?_
    rw [← hP]
    exact ⟨_, rfl, Or.inl ⟨ht, rfl, rfl⟩⟩
theorem x_numbers {t so m : Int} (S : SH sh) (L : LK ct) (T : TC ct sz bt vl) (ht : i32 t) (hs : i32 so) (hm : i32 m) : Mt YX11_numbers (d + 2) [.inr (.inr 0), .inl t, .inl so, .inl m] sh sh ct (pI fun r c => ((¬ (isTr t ∧ 0 ≤ so ∧ so ≤ 3) ∧ r = -2 ∧ TC c sz bt vl) ∨ ((isTr t ∧ 0 ≤ so ∧ so ≤ 3) ∧ ¬ (0 ≤ m ∧ m ≤ 40) ∧ r = -3 ∧ TC c sz bt vl) ∨ ((isTr t ∧ 0 ≤ so ∧ so ≤ 3) ∧ (0 ≤ m ∧ m ≤ 40) ∧ r = 0 ∧ TC c (up1 sz t m) (up1 bt t (8 * 2 ^ so.toNat)) (upR vl t (fun _ => 0)))) ∧ LK c ∧ trG ct c) := by
  unfold i32 at hs hm
  have ws := w32_id hs.1 hs.2
  have wm := w32_id hm.1 hm.2
  generalize hP : (pI fun r c => ((¬ (isTr t ∧ 0 ≤ so ∧ so ≤ 3) ∧ r = -2 ∧ TC c sz bt vl) ∨ ((isTr t ∧ 0 ≤ so ∧ so ≤ 3) ∧ ¬ (0 ≤ m ∧ m ≤ 40) ∧ r = -3 ∧ TC c sz bt vl) ∨ ((isTr t ∧ 0 ≤ so ∧ so ≤ 3) ∧ (0 ≤ m ∧ m ≤ 40) ∧ r = 0 ∧ TC c (up1 sz t m) (up1 bt t (8 * 2 ^ so.toNat)) (upR vl t (fun _ => 0)))) ∧ LK c ∧ trG ct c) = Po
  have bad : ¬ (isTr t ∧ 0 ≤ so ∧ so ≤ 3) → G (mkK YX11_numbers (d + 2) sh sh Po) 16 [some (.inr (.inr 0)), some (.inl t), some (.inl so), some (.inl m)] [] sh ct := by
    intro h
    refine g_bipush (q := 18) dX11_numbers_16 (by decide +kernel) rfl ?_
    refine g_ireturn dX11_numbers_18 rfl ?_
    rw [← hP]
    exact ⟨_, rfl, Or.inl ⟨h, rfl, T⟩, L, trG.rf⟩
  have bad2 : (isTr t ∧ 0 ≤ so ∧ so ≤ 3) → ¬ (0 ≤ m ∧ m ≤ 40) → G (mkK YX11_numbers (d + 2) sh sh Po) 29 [some (.inr (.inr 0)), some (.inl t), some (.inl so), some (.inl m)] [] sh ct := by
    intro h h2
    refine g_bipush (q := 31) dX11_numbers_29 (by decide +kernel) rfl ?_
    refine g_ireturn dX11_numbers_31 rfl ?_
    rw [← hP]
    exact ⟨_, rfl, Or.inr (Or.inl ⟨h, h2, rfl, T⟩), L, trG.rf⟩
  refine Mt.of rfl (Nat.le_of_ble_eq_true rfl) ?_
  show G _ 0 [some (.inr (.inr 0)), some (.inl t), some (.inl so), some (.inl m)] [] sh ct
  refine g_iload_n (q := 1) dX11_numbers_0 rfl rfl ?_
  refine g_callS (q := 4) lX11_214 mX11_isTray sX11_isTray rfl (x_isTray (d + 1) sh _ ht) shLe.rf (rmOk.mk (by omega) (by first | exact shLe.rf | assumption)) (Nat.le_of_ble_eq_true rfl) dX11_numbers_1 rfl rfl (kI fun r_ c_ hp => ?_)
  obtain ⟨hr, hq⟩ := hp
  replace hr := hr.symm
  replace hq := hq.symm
  subst hr hq
  refine g_if_eq (q := 7) (tg := 16) dX11_numbers_4 (by decide) rfl (fun c_4 => ?_) (fun c_4 => ?_)
  · exact bad (fun h => wb0.mp c_4 h.1)
  · have hi := wbn.mp c_4
    have hi0 := hi.1
    have hi1 := hi.2
    refine g_iload_n (q := 8) dX11_numbers_7 rfl rfl ?_
    refine g_if_lt (q := 11) (tg := 16) dX11_numbers_8 (by decide) rfl (fun c_8 => ?_) (fun c_8 => ?_)
    · refine bad (fun h => ?_)
      have := h.2.1
      rw [ws] at c_8
      omega
    · rw [ws] at c_8
      refine g_iload_n (q := 12) dX11_numbers_11 rfl rfl ?_
      refine g_iconst (q := 13) dX11_numbers_12 rfl ?_
      refine g_icmp_lt (q := 16) (tg := 19) dX11_numbers_13 (by decide) rfl (fun c_13 => ?_) (fun c_13 => ?_)
      · rw [ws, show w32 4 = 4 from rfl] at c_13
        have hso : 0 ≤ so ∧ so ≤ 3 := by omega
        refine g_iload_n (q := 20) dX11_numbers_19 rfl rfl ?_
        refine g_if_lt (q := 23) (tg := 29) dX11_numbers_20 (by decide) rfl (fun c_20 => ?_) (fun c_20 => ?_)
        · rw [wm] at c_20
          exact bad2 ⟨hi, hso⟩ (by omega)
        · rw [wm] at c_20
          refine g_iload_n (q := 24) dX11_numbers_23 rfl rfl ?_
          refine g_bipush (q := 26) dX11_numbers_24 (by decide +kernel) rfl ?_
          refine g_icmp_le (q := 29) (tg := 32) dX11_numbers_26 (by decide) rfl (fun c_26 => ?_) (fun c_26 => ?_)
          · rw [wm, show w32 40 = 40 from rfl] at c_26
            have hmr : 0 ≤ m ∧ m ≤ 40 := by omega
            have l38 := (L.tray hi.1 hi.2).1
            have st := (S.tray hi.1 hi.2).1
            have hsl : shlI 8 so = 8 * 2 ^ so.toNat := by
              unfold shlI
              rw [show so % 32 = so by omega]
            refine g_aload_n (q := 33) dX11_numbers_32 rfl rfl ?_
            refine g_getA (q := 36) (kI := 7) fX11_46 (by first | assumption | exact S.at _ rfl) dX11_numbers_33 rfl rfl (by first | assumption | exact L.at _ _ rfl | exact LK.at (by assumption) _ _ rfl | ((repeat first | rewrite [wr_na (by decide)] | rewrite [wr_nk (by decide)] | rewrite [wa_na (by decide)]); first | assumption | exact LK.at (by assumption) _ _ rfl) | exact rfl) ?_
            refine g_iload_n (q := 37) dX11_numbers_36 rfl rfl ?_
            refine g_aaload (q := 38) (S.at _ rfl) (by decide) (by omega) (by omega) (by omega) l38 dX11_numbers_37 rfl ?_
            refine g_iload_n (q := 39) dX11_numbers_38 rfl rfl ?_
            refine g_iload_n (q := 40) dX11_numbers_39 rfl rfl ?_
            refine g_callV (q := 43) lX11_409 mX9_lay nX9_lay rfl (c_lay d sh _ (trAt_t S L hi.1 hi.2)) st rfl rfl shLe.rf (rmOk.mk (by omega) (by first | exact shLe.rf | assumption)) (Nat.le_of_ble_eq_true rfl) dX11_numbers_40 rfl rfl (kN fun c1 hp => ?_)
            rw [hsl] at hp
            have k0 : c1 (39 + 2 * t) 0 = ct (39 + 2 * t) 0 := by rw [hp]; unfold lyC; rw [if_neg (by omega), if_neg (by omega), if_neg (by omega)]
            have k1 : c1 (39 + 2 * t) 1 = m := by rw [hp]; unfold lyC; rw [if_neg (by omega), if_pos ⟨rfl, rfl⟩]
            have k2 : c1 (39 + 2 * t) 2 = 8 * 2 ^ so.toNat := by rw [hp]; unfold lyC; rw [if_pos ⟨rfl, rfl⟩]
            have kr : ∀ j, 0 ≤ j → j < 40 → c1 (39 + 2 * t + 1) j = 0 := fun j a b => by rw [hp]; unfold lyC; rw [if_neg (by omega), if_neg (by omega), if_pos ⟨rfl, a, b⟩]
            have oth : ∀ x, x ≠ 39 + 2 * t → x ≠ 39 + 2 * t + 1 → c1 x = ct x := fun x h1 h2 => by
              funext j
              rw [hp]
              unfold lyC
              rw [if_neg (by omega), if_neg (by omega), if_neg (by omega)]
            have hL : LK c1 := by
              intro x k v hv
              by_cases hx : x = 39 + 2 * t
              · by_cases hk : k = 1 ∨ k = 2
                · rw [hx, lk_tr hi.1 hi.2 hk] at hv
                  cases hv
                · have : c1 x k = ct x k := by
                    rw [hp]
                    unfold lyC
                    rw [if_neg (by omega), if_neg (by omega), if_neg (by omega)]
                  rw [this]
                  exact L _ _ _ hv
              · by_cases hx1 : x = 39 + 2 * t + 1
                · rw [hx1, lk_trR hi.1 hi.2 k] at hv
                  cases hv
                · rw [oth x hx hx1]
                  exact L _ _ _ hv
            refine g_iconst (q := 44) dX11_numbers_43 rfl ?_
            refine g_ireturn dX11_numbers_44 rfl ?_
            rw [← hP]
            refine ⟨_, rfl, Or.inr (Or.inr ⟨⟨hi, hso⟩, hmr, rfl, ?_⟩), hL, fun x hx => oth x (by omega) (by omega)⟩
            intro u u0 u1
            unfold up1 upR
            by_cases hu : u = t
            · subst hu
              simp only [if_true]
              exact ⟨k1, Or.inr ⟨hmr, k2, fun i a b => ⟨kr i a (by omega), by unfold i64; omega⟩⟩⟩
            · simp only [hu, if_false]
              rw [oth (39 + 2 * u) (by omega) (by omega), oth (39 + 2 * u + 1) (by omega) (by omega)]
              exact T u u0 u1
          · rw [wm, show w32 40 = 40 from rfl] at c_26
            exact bad2 ⟨hi, hso⟩ (by omega)
      · refine bad (fun h => ?_)
        have := h.2.2
        rw [ws, show w32 4 = 4 from rfl] at c_13
        omega
theorem TC.put {t i v : Int} (T : TC ct sz bt vl) (ht : isTr t) (hsz : sz t ≠ -1) (hv : i64 v) : TC (wr ct (39 + 2 * t + 1) i v) sz bt (upR vl t (up1 (vl t) i v)) := by
  have ht0 := ht.1
  have ht1 := ht.2
  intro u u0 u1
  have := T u u0 u1
  rw [wr_na (by omega), wr_na (by omega)]
  unfold upR up1
  by_cases hu : u = t
  · subst hu
    simp only [if_true]
    refine ⟨this.1, Or.inr ?_⟩
    rcases this.2 with h | h
    · exact absurd h hsz
    · refine ⟨h.1, h.2.1, fun j a b => ?_⟩
      by_cases hj : j = i
      · subst hj
        rw [if_pos rfl, wr_eq]
        exact ⟨rfl, hv⟩
      · rw [if_neg hj, wr_nk hj]
        exact h.2.2 j a b
  · simp only [hu, if_false]
    refine ⟨this.1, ?_⟩
    rcases this.2 with h | h
    · exact Or.inl h
    · refine Or.inr ⟨h.1, h.2.1, fun j a b => ?_⟩
      rw [wr_na (by omega)]
      exact h.2.2 j a b
theorem x_write {t i v : Int} (S : SH sh) (X : CX sh ct b β s q N V) (T : TC ct sz bt vl) (ht : i32 t) (hi : i32 i) : Mt YX11_write (d + 2) [.inr (.inr 0), .inl t, .inl i, .inr (.inl v)] sh sh ct (pL fun r c => ((¬ isTr t ∧ r = -2 ∧ TC c sz bt vl) ∨ (isTr t ∧ sz t = -1 ∧ r = -6 ∧ TC c sz bt vl) ∨ (isTr t ∧ sz t ≠ -1 ∧ ¬ (0 ≤ i ∧ i < sz t) ∧ r = -7 ∧ TC c sz bt vl) ∨ (isTr t ∧ sz t ≠ -1 ∧ (0 ≤ i ∧ i < sz t) ∧ r = cutL (bt t) v ∧ TC c sz bt (upR vl t (up1 (vl t) i (cutL (bt t) v))))) ∧ LK c ∧ trG ct c) := by
  have L := X.L
  unfold i32 at hi
  have wi := w32_id hi.1 hi.2
  generalize hP : (pL fun r c => ((¬ isTr t ∧ r = -2 ∧ TC c sz bt vl) ∨ (isTr t ∧ sz t = -1 ∧ r = -6 ∧ TC c sz bt vl) ∨ (isTr t ∧ sz t ≠ -1 ∧ ¬ (0 ≤ i ∧ i < sz t) ∧ r = -7 ∧ TC c sz bt vl) ∨ (isTr t ∧ sz t ≠ -1 ∧ (0 ≤ i ∧ i < sz t) ∧ r = cutL (bt t) v ∧ TC c sz bt (upR vl t (up1 (vl t) i (cutL (bt t) v))))) ∧ LK c ∧ trG ct c) = Po
  refine Mt.of rfl (Nat.le_of_ble_eq_true rfl) ?_
  show G _ 0 [some (.inr (.inr 0)), some (.inl t), some (.inl i), some (.inr (.inl v)), none, none] [] sh ct
  refine g_aload_n (q := 1) dX11_write_0 rfl rfl ?_
  refine g_iload_n (q := 2) dX11_write_1 rfl rfl ?_
  refine g_callV (q := 5) lX11_233 mX11_refusedTray nX11_refusedTray rfl (x_refusedTray d sh _ S X T ht) (by first | assumption | exact S.at _ rfl) rfl rfl shLe.rf (rmOk.mk (by omega) (by first | exact shLe.rf | assumption)) (Nat.le_of_ble_eq_true rfl) dX11_write_2 rfl rfl (kI fun r_ c_ hp => ?_)
  obtain ⟨hr, hq⟩ := hp
  replace hr := hr.symm
  replace hq := hq.symm
  subst hr hq
  by_cases htr : isTr t
  · rw [if_pos htr]
    have hi0 := htr.1
    have hi1 := htr.2
    by_cases hz : sz t = -1
    · rw [if_pos hz]
      refine s_istore_6_5 (q := 7) dX11_write_5 rfl rfl rfl ?_
      refine g_iload (q := 9) dX11_write_7 rfl rfl ?_
      refine g_if_eq (q := 12) (tg := 16) dX11_write_9 (by decide) rfl (fun c_9 => ?_) (fun c_9 => ?_)
      · exact absurd c_9 (by decide)
      · refine g_iload (q := 14) dX11_write_12 rfl rfl ?_
        refine g_i2l (q := 15) dX11_write_14 rfl ?_
        refine g_lreturn dX11_write_15 rfl ?_
        rw [← hP]
        exact ⟨_, rfl, Or.inr (Or.inl ⟨htr, hz, rfl, T⟩), L, trG.rf⟩
    · rw [if_neg hz]
      obtain ⟨T1, T2⟩ := T t htr.1 htr.2
      have h40 : 0 ≤ sz t ∧ sz t ≤ 40 := by omega
      have wz : w32 (sz t) = sz t := w32_id (by omega) (by omega)
      have hbt : ct (39 + 2 * t) 2 = bt t := by
        rcases T2 with h | h
        · exact absurd h hz
        · exact h.2.1
      have l38 := (L.tray htr.1 htr.2).1
      have st := (S.tray htr.1 htr.2).1
      have bad : ¬ (0 ≤ i ∧ i < sz t) → ∀ o, G (mkK YX11_write (d + 2) sh sh Po) 33 [some (.inr (.inr 0)), some (.inl t), some (.inl i), some (.inr (.inl v)), none, o] [] sh ct := by
        intro h o
        refine g_ldc2 (q := 36) dX11_write_33 kX11_412 rfl ?_
        refine g_lreturn dX11_write_36 rfl ?_
        rw [← hP]
        exact ⟨_, rfl, Or.inr (Or.inr (Or.inl ⟨htr, hz, h, rfl, T⟩)), L, trG.rf⟩
      refine s_istore_6_5 (q := 7) dX11_write_5 rfl rfl rfl ?_
      refine g_iload (q := 9) dX11_write_7 rfl rfl ?_
      refine g_if_eq (q := 12) (tg := 16) dX11_write_9 (by decide) rfl (fun c_9 => ?_) (fun c_9 => ?_)
      · refine g_iload_n (q := 17) dX11_write_16 rfl rfl ?_
        refine g_if_lt (q := 20) (tg := 33) dX11_write_17 (by decide) rfl (fun c_17 => ?_) (fun c_17 => ?_)
        · rw [wi] at c_17
          exact bad (by omega) _
        · rw [wi] at c_17
          refine g_iload_n (q := 21) dX11_write_20 rfl rfl ?_
          refine g_aload_n (q := 22) dX11_write_21 rfl rfl ?_
          refine g_getA (q := 25) (kI := 7) fX11_46 (by first | assumption | exact S.at _ rfl) dX11_write_22 rfl rfl (by first | assumption | exact L.at _ _ rfl | exact LK.at (by assumption) _ _ rfl | ((repeat first | rewrite [wr_na (by decide)] | rewrite [wr_nk (by decide)] | rewrite [wa_na (by decide)]); first | assumption | exact LK.at (by assumption) _ _ rfl) | exact rfl) ?_
          refine g_iload_n (q := 26) dX11_write_25 rfl rfl ?_
          refine g_aaload (q := 27) (S.at _ rfl) (by decide) (by omega) (by omega) (by omega) l38 dX11_write_26 rfl ?_
          refine g_getI (q := 30) (kI := 1) fX11_225 st dX11_write_27 rfl rfl ?_
          rw [T1]
          refine g_icmp_lt (q := 33) (tg := 37) dX11_write_30 (by decide) rfl (fun c_30 => ?_) (fun c_30 => ?_)
          · rw [wi, wz] at c_30
            refine g_aload_n (q := 38) dX11_write_37 rfl rfl ?_
            refine g_getA (q := 41) (kI := 7) fX11_46 (by first | assumption | exact S.at _ rfl) dX11_write_38 rfl rfl (by first | assumption | exact L.at _ _ rfl | exact LK.at (by assumption) _ _ rfl | ((repeat first | rewrite [wr_na (by decide)] | rewrite [wr_nk (by decide)] | rewrite [wa_na (by decide)]); first | assumption | exact LK.at (by assumption) _ _ rfl) | exact rfl) ?_
            refine g_iload_n (q := 42) dX11_write_41 rfl rfl ?_
            refine g_aaload (q := 43) (S.at _ rfl) (by decide) (by omega) (by omega) (by omega) l38 dX11_write_42 rfl ?_
            refine g_iload_n (q := 44) dX11_write_43 rfl rfl ?_
            refine g_lload_n (q := 45) dX11_write_44 rfl rfl ?_
            refine g_callV (q := 48) lX11_414 mX9_put nX9_put rfl (c_put (d + 1) sh _ (trAt_t S L htr.1 htr.2) (by omega) (i := i) (by omega) (by omega)) st rfl rfl shLe.rf (rmOk.mk (by omega) (by first | exact shLe.rf | assumption)) (Nat.le_of_ble_eq_true rfl) dX11_write_45 rfl rfl (kL fun r_ c_ hp => ?_)
            obtain ⟨hr, hq⟩ := hp
            replace hr := hr.symm
            replace hq := hq.symm
            subst hr hq
            rw [hbt]
            refine g_lreturn dX11_write_48 rfl ?_
            rw [← hP]
            exact ⟨_, rfl, Or.inr (Or.inr (Or.inr ⟨htr, hz, by omega, rfl, TC.put ct T htr hz (cutL_in _ _)⟩)), L.wr (lk_trR htr.1 htr.2 _), fun x hx => wr_other _ _ _ _ _ (by omega)⟩
          · rw [wi, wz] at c_30
            exact bad (by omega) _
      · exact absurd rfl c_9
  · rw [if_neg htr]
    refine s_istore_6_5 (q := 7) dX11_write_5 rfl rfl rfl ?_
    refine g_iload (q := 9) dX11_write_7 rfl rfl ?_
    refine g_if_eq (q := 12) (tg := 16) dX11_write_9 (by decide) rfl (fun c_9 => ?_) (fun c_9 => ?_)
    · exact absurd c_9 (by decide)
    · refine g_iload (q := 14) dX11_write_12 rfl rfl ?_
      refine g_i2l (q := 15) dX11_write_14 rfl ?_
      refine g_lreturn dX11_write_15 rfl ?_
      rw [← hP]
      exact ⟨_, rfl, Or.inl ⟨htr, rfl, T⟩, L, trG.rf⟩
end
