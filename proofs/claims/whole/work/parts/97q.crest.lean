/-! MinuteBook: images kept, brought back -/
theorem dX11_image_0 : decode cX11_image 0 = .ok (.iload_n 1, 1) := by decide +kernel
theorem dX11_image_1 : decode cX11_image 1 = .ok (.ifCond .lt 8, 3) := by decide +kernel
theorem dX11_image_4 : decode cX11_image 4 = .ok (.iload_n 1, 1) := by decide +kernel
theorem dX11_image_5 : decode cX11_image 5 = .ok (.iconst 2, 1) := by decide +kernel
theorem dX11_image_6 : decode cX11_image 6 = .ok (.if_icmp .lt 6, 3) := by decide +kernel
theorem dX11_image_9 : decode cX11_image 9 = .ok (.bipush (-2), 2) := by decide +kernel
theorem dX11_image_11 : decode cX11_image 11 = .ok (.ireturn, 1) := by decide +kernel
theorem dX11_image_12 : decode cX11_image 12 = .ok (.aload_n 0, 1) := by decide +kernel
theorem dX11_image_13 : decode cX11_image 13 = .ok (.getfield 53, 3) := by decide +kernel
theorem dX11_image_16 : decode cX11_image 16 = .ok (.iload_n 1, 1) := by decide +kernel
theorem dX11_image_17 : decode cX11_image 17 = .ok (.aaload, 1) := by decide +kernel
theorem dX11_image_18 : decode cX11_image 18 = .ok (.aload_n 0, 1) := by decide +kernel
theorem dX11_image_19 : decode cX11_image 19 = .ok (.getfield 20, 3) := by decide +kernel
theorem dX11_image_22 : decode cX11_image 22 = .ok (.aload_n 0, 1) := by decide +kernel
theorem dX11_image_23 : decode cX11_image 23 = .ok (.getfield 30, 3) := by decide +kernel
theorem dX11_image_26 : decode cX11_image 26 = .ok (.invokevirtual 418, 3) := by decide +kernel
theorem dX11_image_29 : decode cX11_image 29 = .ok (.iconst 0, 1) := by decide +kernel
theorem dX11_image_30 : decode cX11_image 30 = .ok (.ireturn, 1) := by decide +kernel
theorem dX11_restore_0 : decode cX11_restore 0 = .ok (.iload_n 1, 1) := by decide +kernel
theorem dX11_restore_1 : decode cX11_restore 1 = .ok (.ifCond .lt 8, 3) := by decide +kernel
theorem dX11_restore_4 : decode cX11_restore 4 = .ok (.iload_n 1, 1) := by decide +kernel
theorem dX11_restore_5 : decode cX11_restore 5 = .ok (.iconst 2, 1) := by decide +kernel
theorem dX11_restore_6 : decode cX11_restore 6 = .ok (.if_icmp .lt 6, 3) := by decide +kernel
theorem dX11_restore_9 : decode cX11_restore 9 = .ok (.bipush (-2), 2) := by decide +kernel
theorem dX11_restore_11 : decode cX11_restore 11 = .ok (.ireturn, 1) := by decide +kernel
theorem dX11_restore_12 : decode cX11_restore 12 = .ok (.aload_n 0, 1) := by decide +kernel
theorem dX11_restore_13 : decode cX11_restore 13 = .ok (.getfield 53, 3) := by decide +kernel
theorem dX11_restore_16 : decode cX11_restore 16 = .ok (.iload_n 1, 1) := by decide +kernel
theorem dX11_restore_17 : decode cX11_restore 17 = .ok (.aaload, 1) := by decide +kernel
theorem dX11_restore_18 : decode cX11_restore 18 = .ok (.getfield 422, 3) := by decide +kernel
theorem dX11_restore_21 : decode cX11_restore 21 = .ok (.ifCond .ne 6, 3) := by decide +kernel
theorem dX11_restore_24 : decode cX11_restore 24 = .ok (.bipush (-5), 2) := by decide +kernel
theorem dX11_restore_26 : decode cX11_restore 26 = .ok (.ireturn, 1) := by decide +kernel
theorem dX11_restore_27 : decode cX11_restore 27 = .ok (.aload_n 0, 1) := by decide +kernel
theorem dX11_restore_28 : decode cX11_restore 28 = .ok (.getfield 20, 3) := by decide +kernel
theorem dX11_restore_31 : decode cX11_restore 31 = .ok (.aload_n 0, 1) := by decide +kernel
theorem dX11_restore_32 : decode cX11_restore 32 = .ok (.getfield 53, 3) := by decide +kernel
theorem dX11_restore_35 : decode cX11_restore 35 = .ok (.iload_n 1, 1) := by decide +kernel
theorem dX11_restore_36 : decode cX11_restore 36 = .ok (.aaload, 1) := by decide +kernel
theorem dX11_restore_37 : decode cX11_restore 37 = .ok (.getfield 426, 3) := by decide +kernel
theorem dX11_restore_40 : decode cX11_restore 40 = .ok (.invokevirtual 427, 3) := by decide +kernel
theorem dX11_restore_43 : decode cX11_restore 43 = .ok (.aload_n 0, 1) := by decide +kernel
theorem dX11_restore_44 : decode cX11_restore 44 = .ok (.getfield 30, 3) := by decide +kernel
theorem dX11_restore_47 : decode cX11_restore 47 = .ok (.aload_n 0, 1) := by decide +kernel
theorem dX11_restore_48 : decode cX11_restore 48 = .ok (.getfield 53, 3) := by decide +kernel
theorem dX11_restore_51 : decode cX11_restore 51 = .ok (.iload_n 1, 1) := by decide +kernel
theorem dX11_restore_52 : decode cX11_restore 52 = .ok (.aaload, 1) := by decide +kernel
theorem dX11_restore_53 : decode cX11_restore 53 = .ok (.getfield 429, 3) := by decide +kernel
theorem dX11_restore_56 : decode cX11_restore 56 = .ok (.invokevirtual 184, 3) := by decide +kernel
theorem dX11_restore_59 : decode cX11_restore 59 = .ok (.aload_n 0, 1) := by decide +kernel
theorem dX11_restore_60 : decode cX11_restore 60 = .ok (.getfield 40, 3) := by decide +kernel
theorem dX11_restore_63 : decode cX11_restore 63 = .ok (.invokevirtual 123, 3) := by decide +kernel
theorem dX11_restore_66 : decode cX11_restore 66 = .ok (.aload_n 0, 1) := by decide +kernel
theorem dX11_restore_67 : decode cX11_restore 67 = .ok (.getfield 79, 3) := by decide +kernel
theorem dX11_restore_70 : decode cX11_restore 70 = .ok (.aload_n 0, 1) := by decide +kernel
theorem dX11_restore_71 : decode cX11_restore 71 = .ok (.getfield 20, 3) := by decide +kernel
theorem dX11_restore_74 : decode cX11_restore 74 = .ok (.invokevirtual 126, 3) := by decide +kernel
theorem dX11_restore_77 : decode cX11_restore 77 = .ok (.iconst 0, 1) := by decide +kernel
theorem dX11_restore_78 : decode cX11_restore 78 = .ok (.ireturn, 1) := by decide +kernel
/-- the images -/
def IC (ct : mbCt) (hi : Int → Int) (bi : Int → Bk) (si : Int → Sit) : Prop := ∀ i, 0 ≤ i → i < 2 → shR ct (48 + 8 * i + 1) ∧ ((hi i = 0 ∧ ct (48 + 8 * i) 0 = 0) ∨ (hi i = 1 ∧ ct (48 + 8 * i) 0 = 1 ∧ (bkE (bkOf ct (48 + 8 * i + 1)) (bi i) ∧ bkWf ct (48 + 8 * i + 1) ∧ bkZ ct (48 + 8 * i + 1)) ∧ bkB (bi i) ∧ sitC ct (48 + 8 * i + 6) (si i) ∧ sitB (si i) ∧ cnM (bi i) (si i).2.2))
theorem IC.cg {ct c : mbCt} {hi : Int → Int} {bi : Int → Bk} {si : Int → Sit} (I : IC ct hi bi si) (e : ∀ x : Int, 48 ≤ x → x ≤ 63 → c x = ct x) : IC c hi bi si := by
  intro i i0 i1
  obtain ⟨h1, h2⟩ := I i i0 i1
  have e0 := e (48 + 8 * i) (by omega) (by omega)
  have e1 := e (48 + 8 * i + 1) (by omega) (by omega)
  have e3 := e (48 + 8 * i + 1 + 2) (by omega) (by omega)
  have e4 := e (48 + 8 * i + 1 + 3) (by omega) (by omega)
  have e5 := e (48 + 8 * i + 1 + 4) (by omega) (by omega)
  refine ⟨fun j a b => by rw [e5]; exact h1 j a b, ?_⟩
  rcases h2 with h2 | ⟨a1, a2, ⟨a3, a4, a5⟩, a6, a7, a8⟩
  · exact Or.inl ⟨h2.1, by rw [e0]; exact h2.2⟩
  · refine Or.inr ⟨a1, by rw [e0]; exact a2, ⟨by rw [bkOf_eq e1 e3 e4 e5]; exact a3, bkWf_eq e1 e5 a4, by unfold bkZ at *; rw [e1]; exact a5⟩, a6, a7.cg (e _ (by omega) (by omega)) (e _ (by omega) (by omega)), a8⟩
theorem lk_img {i : Int} (i0 : 0 ≤ i) (i1 : i < 2) : bk4 (48 + 8 * i + 1) ∧ lkF (48 + 8 * i) 0 = none ∧ lkF (48 + 8 * i + 6) 0 = none ∧ lkF (48 + 8 * i + 6) 1 = none ∧ ∀ k, lkF (48 + 8 * i + 6 + 1) k = none := by
  rcases (show i = 0 ∨ i = 1 by omega) with rfl | rfl
  · exact ⟨by decide, rfl, rfl, rfl, fun k => lkF_none rfl k⟩
  · exact ⟨by decide, rfl, rfl, rfl, fun k => lkF_none rfl k⟩
theorem at_img {sh : mbSh} {ct : mbCt} (S : SH sh) (L : LK ct) {i : Int} (i0 : 0 ≤ i) (i1 : i < 2) : shA sh (48 + 8 * i) = some (2, 3) ∧ ct 47 i = 48 + 8 * i ∧ ct (48 + 8 * i) 1 = 48 + 8 * i + 1 ∧ ct (48 + 8 * i) 2 = 48 + 8 * i + 6 ∧ bkAt sh ct (48 + 8 * i + 1) ∧ sitAt sh ct (48 + 8 * i + 6) := by
  rcases (show i = 0 ∨ i = 1 by omega) with rfl | rfl
  · exact ⟨S.at _ rfl, L.at _ _ rfl, L.at _ _ rfl, L.at _ _ rfl, ⟨S.at _ rfl, S.at _ rfl, S.at _ rfl, S.at _ rfl, S.at _ rfl, L.at _ _ rfl, L.at _ _ rfl, L.at _ _ rfl, L.at _ _ rfl⟩, S.at _ rfl, S.at _ rfl, L.at _ _ rfl⟩
  · exact ⟨S.at _ rfl, L.at _ _ rfl, L.at _ _ rfl, L.at _ _ rfl, ⟨S.at _ rfl, S.at _ rfl, S.at _ rfl, S.at _ rfl, S.at _ rfl, L.at _ _ rfl, L.at _ _ rfl, L.at _ _ rfl, L.at _ _ rfl⟩, S.at _ rfl, S.at _ rfl, L.at _ _ rfl⟩
theorem bkAt_b {sh : mbSh} {ct : mbCt} (S : SH sh) (L : LK ct) {b : Int} (hb : b = 2 ∨ b = 7) : bkAt sh ct b := by
  rcases hb with rfl | rfl
  · exact ⟨S.at _ rfl, S.at _ rfl, S.at _ rfl, S.at _ rfl, S.at _ rfl, L.at _ _ rfl, L.at _ _ rfl, L.at _ _ rfl, L.at _ _ rfl⟩
  · exact ⟨S.at _ rfl, S.at _ rfl, S.at _ rfl, S.at _ rfl, S.at _ rfl, L.at _ _ rfl, L.at _ _ rfl, L.at _ _ rfl, L.at _ _ rfl⟩
/-- nothing but the images has changed -/
def iG (ct c : mbCt) : Prop := ∀ x : Int, (x < 48 ∨ 63 < x) → c x = ct x
section
variable (d : Nat) (sh : mbSh) (ct : mbCt) {b : Int} {β : Bk} {s : Sit} {q : Int} {N : Nat} {V n : Int} {pl : Int → Sit} {hi : Int → Int} {bi : Int → Bk} {si : Int → Sit} {i : Int}
theorem CX.ig {c : mbCt} (X : CX sh ct b β s q N V) (hL : LK c) (e : iG ct c) : CX sh c b β s q N V := X.sit hL (by rw [e 0 (by omega)]) (fun x h1 h2 => e x (by omega)) (fun x h1 => e x (by omega)) (X.2.1.cg (e 12 (by omega)) (e 13 (by omega))) X.2.2.1.1 X.2.2.1.2.1
theorem CP.ig {c : mbCt} (C : CP sh ct b β s n pl q N V) (hL : LK c) (e : iG ct c) : CP sh c b β s n pl q N V := ⟨CX.ig sh ct C.1 hL e, C.2.cg (fun x h0 h1 => e x (by omega))⟩
theorem x_keep (S : SH sh) (L : LK ct) (hb : b = 2 ∨ b = 7) (Z : bkZ ct b) (R : shR ct b) (i0 : 0 ≤ i) (i1 : i < 2) : Mt YX2_keep (d + 2) [.inr (.inr (48 + 8 * i)), .inr (.inr b), .inr (.inr 12)] sh sh ct (pN fun c => c = kpC ct (48 + 8 * i) b 12 ∧ LK c) := by
  obtain ⟨sa, l47, la1, la2, hk, h6⟩ := at_img S L i0 i1
  obtain ⟨hb4, n0, n6, n61, n7⟩ := lk_img i0 i1
  have sb := (bkAt_b S L hb).1
  have sk := hk.1
  have s6 := h6.1
  refine Mt.of rfl (Nat.le_of_ble_eq_true rfl) ?_
  show G _ 0 [some (.inr (.inr (48 + 8 * i))), some (.inr (.inr b)), some (.inr (.inr 12))] [] sh ct
  refine g_aload_n (q := 1) dX2_keep_0 rfl rfl ?_
  refine g_getO (q := 4) (kI := 1) fX2_10 (by first | assumption | exact S.at _ rfl) dX2_keep_1 rfl rfl (by first | assumption | exact L.at _ _ rfl | exact LK.at (by assumption) _ _ rfl | ((repeat first | rewrite [wr_na (by decide)] | rewrite [wr_nk (by decide)] | rewrite [wa_na (by decide)]); first | assumption | exact LK.at (by assumption) _ _ rfl) | exact rfl) ?_
  refine g_aload_n (q := 5) dX2_keep_4 rfl rfl ?_
  refine g_callV (q := 8) lX2_23 mX0_become nX0_become rfl (c_bookBecome d sh _ hk (bkAt_b S L hb) (by omega) Z.1.1 Z.1.2 (fun j a b => R j a (by have := Z.1.2; omega))) sk rfl rfl shLe.rf (rmOk.mk (by omega) (by first | exact shLe.rf | assumption)) (Nat.le_of_ble_eq_true rfl) dX2_keep_5 rfl rfl (kN fun c1 hp => ?_)
  have L1 : LK c1 := by rw [hp]; exact L.bb hb4
  have la2' : c1 (48 + 8 * i) 2 = 48 + 8 * i + 6 := (at_img S L1 i0 i1).2.2.2.1
  refine g_aload_n (q := 9) dX2_keep_8 rfl rfl ?_
  refine g_getO (q := 12) (kI := 2) fX2_19 (by first | assumption | exact S.at _ rfl) dX2_keep_9 rfl rfl (by first | assumption | exact L.at _ _ rfl | exact LK.at (by assumption) _ _ rfl | ((repeat first | rewrite [wr_na (by decide)] | rewrite [wr_nk (by decide)] | rewrite [wa_na (by decide)]); first | assumption | exact LK.at (by assumption) _ _ rfl) | exact rfl) ?_
  refine g_aload_n (q := 13) dX2_keep_12 rfl rfl ?_
  refine g_callV (q := 16) lX2_27 mX8_become nX8_become rfl (c_become d sh _ (at_img S L1 i0 i1).2.2.2.2.2 (sitAt_n S L1 (Or.inl rfl))) s6 rfl rfl shLe.rf (rmOk.mk (by omega) (by first | exact shLe.rf | assumption)) (Nat.le_of_ble_eq_true rfl) dX2_keep_13 rfl rfl (kN fun c2 hp2 => ?_)
  have L2 : LK c2 := by rw [hp2]; exact L1.be n6 n61 n7
  refine g_aload_n (q := 17) dX2_keep_16 rfl rfl ?_
  refine g_iconst (q := 18) dX2_keep_17 rfl ?_
  refine g_putZ (q := 21) (kI := 0) fX2_30 (by first | assumption | exact S.at _ rfl) (by first | exact Or.inl rfl | exact Or.inr rfl | assumption) dX2_keep_18 rfl rfl ?_
  refine g_return dX2_keep_21 rfl ?_
  exact ⟨rfl, by rw [hp2, hp]; rfl, L2.wr n0⟩
theorem x_image (S : SH sh) (X : CX sh ct b β s q N V) (Z : bkZ ct b) (R : shR ct b) (I : IC ct hi bi si) (h : i32 i) : Mt YX11_image (d + 3) [.inr (.inr 0), .inl i] sh sh ct (pI fun r c => ((¬ (0 ≤ i ∧ i ≤ 1) ∧ r = -2 ∧ IC c hi bi si) ∨ ((0 ≤ i ∧ i ≤ 1) ∧ r = 0 ∧ IC c (up1 hi i 1) (up1' bi i β) (up1' si i s))) ∧ LK c ∧ iG ct c) := by
  have L := X.L
  have hb : b = 2 ∨ b = 7 := X.hb
  have h02 := X.1
  unfold i32 at h
  have wi := w32_id h.1 h.2
  generalize hP : (pI fun r c => ((¬ (0 ≤ i ∧ i ≤ 1) ∧ r = -2 ∧ IC c hi bi si) ∨ ((0 ≤ i ∧ i ≤ 1) ∧ r = 0 ∧ IC c (up1 hi i 1) (up1' bi i β) (up1' si i s))) ∧ LK c ∧ iG ct c) = Po
  have bad : ¬ (0 ≤ i ∧ i ≤ 1) → G (mkK YX11_image (d + 3) sh sh Po) 9 [some (.inr (.inr 0)), some (.inl i)] [] sh ct := by
    intro h
    refine g_bipush (q := 11) dX11_image_9 (by decide +kernel) rfl ?_
    refine g_ireturn dX11_image_11 rfl ?_
    rw [← hP]
    exact ⟨_, rfl, Or.inl ⟨h, rfl, I⟩, L, fun _ _ => rfl⟩
  refine Mt.of rfl (Nat.le_of_ble_eq_true rfl) ?_
  show G _ 0 [some (.inr (.inr 0)), some (.inl i)] [] sh ct
  refine g_iload_n (q := 1) dX11_image_0 rfl rfl ?_
  refine g_if_lt (q := 4) (tg := 9) dX11_image_1 (by decide) rfl (fun c_1 => ?_) (fun c_1 => ?_)
  · rw [wi] at c_1
    exact bad (by omega)
  · rw [wi] at c_1
    refine g_iload_n (q := 5) dX11_image_4 rfl rfl ?_
    refine g_iconst (q := 6) dX11_image_5 rfl ?_
    refine g_icmp_lt (q := 9) (tg := 12) dX11_image_6 (by decide) rfl (fun c_6 => ?_) (fun c_6 => ?_)
    · rw [wi, show w32 2 = 2 from rfl] at c_6
      have i0 : 0 ≤ i := by omega
      obtain ⟨sa, l47, la1, la2, hk, h6⟩ := at_img S L i0 c_6
      refine g_aload_n (q := 13) dX11_image_12 rfl rfl ?_
      refine g_getA (q := 16) (kI := 8) fX11_53 (by first | assumption | exact S.at _ rfl) dX11_image_13 rfl rfl (by first | assumption | exact L.at _ _ rfl | exact LK.at (by assumption) _ _ rfl | ((repeat first | rewrite [wr_na (by decide)] | rewrite [wr_nk (by decide)] | rewrite [wa_na (by decide)]); first | assumption | exact LK.at (by assumption) _ _ rfl) | exact rfl) ?_
      refine g_iload_n (q := 17) dX11_image_16 rfl rfl ?_
      refine g_aaload (q := 18) (S.at _ rfl) (by decide) i0 (by omega) (by omega) l47 dX11_image_17 rfl ?_
      refine g_aload_n (q := 19) dX11_image_18 rfl rfl ?_
      refine g_getO (q := 22) (kI := 2) fX11_20 (by first | assumption | exact S.at _ rfl) dX11_image_19 rfl rfl (by first | assumption | exact L.at _ _ rfl | exact LK.at (by assumption) _ _ rfl | ((repeat first | rewrite [wr_na (by decide)] | rewrite [wr_nk (by decide)] | rewrite [wa_na (by decide)]); first | assumption | exact LK.at (by assumption) _ _ rfl) | exact rfl) ?_
      refine g_aload_n (q := 23) dX11_image_22 rfl rfl ?_
      refine g_getO (q := 26) (kI := 4) fX11_30 (by first | assumption | exact S.at _ rfl) dX11_image_23 rfl rfl (by first | assumption | exact L.at _ _ rfl | exact LK.at (by assumption) _ _ rfl | ((repeat first | rewrite [wr_na (by decide)] | rewrite [wr_nk (by decide)] | rewrite [wa_na (by decide)]); first | assumption | exact LK.at (by assumption) _ _ rfl) | exact rfl) ?_
      refine g_callV (q := 29) lX11_418 mX2_keep nX2_keep rfl (x_keep d sh _ S L hb Z R i0 c_6) sa rfl rfl shLe.rf (rmOk.mk (by omega) (by first | exact shLe.rf | assumption)) (Nat.le_of_ble_eq_true rfl) dX11_image_26 rfl rfl (kN fun c1 hp => ?_)
      obtain ⟨hp, hL⟩ := hp
      have ka : c1 (48 + 8 * i) 0 = 1 := by rw [hp]; exact wr_eq
      have kb : ∀ j, 0 ≤ j → j ≤ 10 → c1 (48 + 8 * i + 1) j = ct b j := fun j a b => by
        rw [hp]
        simp only [kpC, wr, beC, bbC]
        rw [if_neg (by omega), if_neg (by omega), if_neg (by omega), if_neg (by omega), if_pos ⟨trivial, a, b⟩]
      have kb2 : ∀ j, 0 ≤ j → j < 8 → c1 (48 + 8 * i + 1 + 2) j = ct (b + 2) j := fun j a b => by
        rw [hp]
        simp only [kpC, wr, beC, bbC]
        rw [if_neg (by omega), if_neg (by omega), if_neg (by omega), if_neg (by omega), if_neg (by omega), if_neg (by omega), if_pos ⟨trivial, a, b⟩]
      have kb3 : ∀ j, 0 ≤ j → j < 8 → c1 (48 + 8 * i + 1 + 3) j = ct (b + 3) j := fun j a b => by
        rw [hp]
        simp only [kpC, wr, beC, bbC]
        rw [if_neg (by omega), if_neg (by omega), if_neg (by omega), if_neg (by omega), if_neg (by omega), if_neg (by omega), if_neg (by omega), if_pos ⟨trivial, a, b⟩]
      have kb4 : ∀ j, c1 (48 + 8 * i + 1 + 4) j = if 0 ≤ j ∧ j < ct b 6 then ct (b + 4) j else ct (48 + 8 * i + 1 + 4) j := fun j => by
        rw [hp]
        simp only [kpC, wr, beC, bbC]
        rw [if_neg (by omega), if_neg (by omega), if_neg (by omega), if_neg (by omega), if_neg (by omega), if_neg (by omega), if_neg (by omega), if_neg (by omega)]
        by_cases hj : 0 ≤ j ∧ j < ct b 6
        · rw [if_pos ⟨trivial, hj⟩, if_pos hj]
        · rw [if_neg (fun z => hj z.2), if_neg hj]
      have hst : sitC ct 12 s := X.2.1
      have k12 : ∀ j, bbC ct (48 + 8 * i + 1) b 12 j = ct 12 j := fun j => by
        simp only [bbC]
        rw [if_neg (by omega), if_neg (by omega), if_neg (by omega), if_neg (by omega), if_neg (by omega)]
      have k13 : ∀ j, bbC ct (48 + 8 * i + 1) b (12 + 1) j = ct (12 + 1) j := fun j => by
        simp only [bbC]
        rw [if_neg (by omega), if_neg (by omega), if_neg (by omega), if_neg (by omega), if_neg (by omega)]
      have ks : sitC c1 (48 + 8 * i + 6) s := by
        refine ⟨?_, ?_, fun m m0 m1 => ?_⟩
        · rw [hp]
          simp only [kpC, wr, beC]
          rw [if_neg (by omega), if_pos ⟨trivial, trivial⟩, k12]
          exact hst.1
        · rw [hp]
          simp only [kpC, wr, beC]
          rw [if_neg (by omega), if_neg (by omega), if_pos ⟨trivial, trivial⟩, k12]
          exact hst.2.1
        · rw [hp]
          simp only [kpC, wr, beC]
          rw [if_neg (by omega), if_neg (by omega), if_neg (by omega), if_pos ⟨trivial, m0, m1⟩, k13]
          exact hst.2.2 m m0 m1
      have oth : ∀ x : Int, (x < 48 + 8 * i ∨ 48 + 8 * i + 7 < x) → c1 x = ct x := fun x hx => by
        funext j
        rw [hp]
        simp only [kpC, wr, beC, bbC]
        rw [if_neg (by omega), if_neg (by omega), if_neg (by omega), if_neg (by omega), if_neg (by omega), if_neg (by omega), if_neg (by omega), if_neg (by omega), if_neg (by omega)]
      refine g_iconst (q := 30) dX11_image_29 rfl ?_
      refine g_ireturn dX11_image_30 rfl ?_
      rw [← hP]
      refine ⟨_, rfl, Or.inr ⟨⟨i0, by omega⟩, rfl, ?_⟩, hL, fun x hx => oth x (by omega)⟩
      intro u u0 u1
      by_cases hu : u = i
      · subst hu
        have hcp := bk_cp (ct := ct) (c := c1) (b := 48 + 8 * u + 1) (o := b) (by obtain ⟨mk, hK⟩ := X.2.2.2.1; exact hK.1.wf) Z kb kb2 kb3 (fun j a b => by rw [kb4, if_pos ⟨a, b⟩])
        have hbe : bkOf ct b = β := by obtain ⟨mk, hK⟩ := X.2.2.2.1; exact hK.1.bk
        rw [hbe] at hcp
        refine ⟨fun j a b => ?_, Or.inr ?_⟩
        · rw [kb4]
          split
          · exact R j a b
          · exact (I u u0 u1).1 j a b
        · unfold up1 up1'
          simp only [if_true]
          exact ⟨trivial, ka, hcp, X.2.2.1.2.2, ks, X.2.2.1.1, X.2.2.1.2.1⟩
      · have hI : IC (fun x => if 48 + 8 * u ≤ x ∧ x ≤ 48 + 8 * u + 7 then c1 x else ct x) hi bi si := I.cg (fun x a b => by
          show (if _ then _ else _) = _
          split
          · exact oth x (by omega)
          · rfl)
        have := hI u u0 u1
        unfold up1 up1'
        simp only [hu, if_false]
        obtain ⟨h1, h2⟩ := I u u0 u1
        have e0 := oth (48 + 8 * u) (by omega)
        have e1 := oth (48 + 8 * u + 1) (by omega)
        have e3 := oth (48 + 8 * u + 1 + 2) (by omega)
        have e4 := oth (48 + 8 * u + 1 + 3) (by omega)
        have e5 := oth (48 + 8 * u + 1 + 4) (by omega)
        refine ⟨fun j a b => by rw [e5]; exact h1 j a b, ?_⟩
        rcases h2 with h2 | ⟨a1, a2, ⟨a3, a4, a5⟩, a6, a7, a8⟩
        · exact Or.inl ⟨h2.1, by rw [e0]; exact h2.2⟩
        · refine Or.inr ⟨a1, by rw [e0]; exact a2, ⟨by rw [bkOf_eq e1 e3 e4 e5]; exact a3, bkWf_eq e1 e5 a4, by unfold bkZ at *; rw [e1]; exact a5⟩, a6, a7.cg (oth _ (by omega)) (oth _ (by omega)), a8⟩
    · rw [wi, show w32 2 = 2 from rfl] at c_6
      exact bad (by omega)
theorem x_restore (S : SH sh) (C : CP sh ct b β s n pl q N V) (hV : V + 1 < 900000) (R : shR ct b) (I : IC ct hi bi si) (h : i32 i) : Mt YX11_restore (d + 3) [.inr (.inr 0), .inl i] sh sh ct (pI fun r c => (¬ (0 ≤ i ∧ i ≤ 1) ∧ r = -2 ∧ c = ct) ∨ ((0 ≤ i ∧ i ≤ 1) ∧ hi i = 0 ∧ r = -5 ∧ c = ct) ∨ ((0 ≤ i ∧ i ≤ 1) ∧ hi i = 1 ∧ r = 0 ∧ (∃ γ, bkE γ (bi i) ∧ CP sh c b γ (si i) 0 pl q N (V + 1)) ∧ bkZ c b ∧ shR c b ∧ eqBut [b, b + 1, b + 2, b + 3, b + 4, 12, 13, 16, 70, 72, 73, 74] ct c)) := by
  obtain ⟨X, P⟩ := C
  have L := X.L
  have hb : b = 2 ∨ b = 7 := X.hb
  have hb4 : bk4 b := hb.elim (fun h => Or.inl h) (fun h => Or.inr (Or.inl h))
  have h02 := X.1
  unfold i32 at h
  have wi := w32_id h.1 h.2
  generalize hP : (pI fun r c => (¬ (0 ≤ i ∧ i ≤ 1) ∧ r = -2 ∧ c = ct) ∨ ((0 ≤ i ∧ i ≤ 1) ∧ hi i = 0 ∧ r = -5 ∧ c = ct) ∨ ((0 ≤ i ∧ i ≤ 1) ∧ hi i = 1 ∧ r = 0 ∧ (∃ γ, bkE γ (bi i) ∧ CP sh c b γ (si i) 0 pl q N (V + 1)) ∧ bkZ c b ∧ shR c b ∧ eqBut [b, b + 1, b + 2, b + 3, b + 4, 12, 13, 16, 70, 72, 73, 74] ct c)) = Po
  have bad : ¬ (0 ≤ i ∧ i ≤ 1) → G (mkK YX11_restore (d + 3) sh sh Po) 9 [some (.inr (.inr 0)), some (.inl i)] [] sh ct := by
    intro h
    refine g_bipush (q := 11) dX11_restore_9 (by decide +kernel) rfl ?_
    refine g_ireturn dX11_restore_11 rfl ?_
    rw [← hP]
    exact ⟨_, rfl, Or.inl ⟨h, rfl, rfl⟩⟩
  refine Mt.of rfl (Nat.le_of_ble_eq_true rfl) ?_
  show G _ 0 [some (.inr (.inr 0)), some (.inl i)] [] sh ct
  refine g_iload_n (q := 1) dX11_restore_0 rfl rfl ?_
  refine g_if_lt (q := 4) (tg := 9) dX11_restore_1 (by decide) rfl (fun c_1 => ?_) (fun c_1 => ?_)
  · rw [wi] at c_1
    exact bad (by omega)
  · rw [wi] at c_1
    refine g_iload_n (q := 5) dX11_restore_4 rfl rfl ?_
    refine g_iconst (q := 6) dX11_restore_5 rfl ?_
    refine g_icmp_lt (q := 9) (tg := 12) dX11_restore_6 (by decide) rfl (fun c_6 => ?_) (fun c_6 => ?_)
    · rw [wi, show w32 2 = 2 from rfl] at c_6
      have i0 : 0 ≤ i := by omega
      have i01 : 0 ≤ i ∧ i ≤ 1 := by omega
      obtain ⟨sa, l47, la1, la2, hk, h6⟩ := at_img S L i0 c_6
      obtain ⟨hR, hI⟩ := I i i0 c_6
      refine g_aload_n (q := 13) dX11_restore_12 rfl rfl ?_
      refine g_getA (q := 16) (kI := 8) fX11_53 (by first | assumption | exact S.at _ rfl) dX11_restore_13 rfl rfl (by first | assumption | exact L.at _ _ rfl | exact LK.at (by assumption) _ _ rfl | ((repeat first | rewrite [wr_na (by decide)] | rewrite [wr_nk (by decide)] | rewrite [wa_na (by decide)]); first | assumption | exact LK.at (by assumption) _ _ rfl) | exact rfl) ?_
      refine g_iload_n (q := 17) dX11_restore_16 rfl rfl ?_
      refine g_aaload (q := 18) (S.at _ rfl) (by decide) i0 (by omega) (by omega) l47 dX11_restore_17 rfl ?_
      refine g_getZ (q := 21) (kI := 0) fX11_422 (by first | assumption | exact S.at _ rfl) dX11_restore_18 rfl rfl ?_
      rcases hI with ⟨hi0, hm⟩ | ⟨hi1, hm, ⟨hE, hW, hZ⟩, hB, hsi, hsB, hcn⟩
      · rw [hm]
        refine g_if_ne (q := 24) (tg := 27) dX11_restore_21 (by decide) rfl (fun c_21 => ?_) (fun c_21 => ?_)
        · exact absurd rfl c_21
        · refine g_bipush (q := 26) dX11_restore_24 (by decide +kernel) rfl ?_
          refine g_ireturn dX11_restore_26 rfl ?_
          rw [← hP]
          exact ⟨_, rfl, Or.inr (Or.inl ⟨i01, hi0, rfl, rfl⟩)⟩
      · rw [hm]
        have sb := (bkAt_b S L hb).1
        refine g_if_ne (q := 24) (tg := 27) dX11_restore_21 (by decide) rfl (fun c_21 => ?_) (fun c_21 => ?_)
        · refine g_aload_n (q := 28) dX11_restore_27 rfl rfl ?_
          refine g_getO (q := 31) (kI := 2) fX11_20 (by first | assumption | exact S.at _ rfl) dX11_restore_28 rfl rfl (by first | assumption | exact L.at _ _ rfl | exact LK.at (by assumption) _ _ rfl | ((repeat first | rewrite [wr_na (by decide)] | rewrite [wr_nk (by decide)] | rewrite [wa_na (by decide)]); first | assumption | exact LK.at (by assumption) _ _ rfl) | exact rfl) ?_
          refine g_aload_n (q := 32) dX11_restore_31 rfl rfl ?_
          refine g_getA (q := 35) (kI := 8) fX11_53 (by first | assumption | exact S.at _ rfl) dX11_restore_32 rfl rfl (by first | assumption | exact L.at _ _ rfl | exact LK.at (by assumption) _ _ rfl | ((repeat first | rewrite [wr_na (by decide)] | rewrite [wr_nk (by decide)] | rewrite [wa_na (by decide)]); first | assumption | exact LK.at (by assumption) _ _ rfl) | exact rfl) ?_
          refine g_iload_n (q := 36) dX11_restore_35 rfl rfl ?_
          refine g_aaload (q := 37) (S.at _ rfl) (by decide) i0 (by omega) (by omega) l47 dX11_restore_36 rfl ?_
          refine g_getO (q := 40) (kI := 1) fX11_426 (by first | assumption | exact S.at _ rfl) dX11_restore_37 rfl rfl (by first | assumption | exact L.at _ _ rfl | exact LK.at (by assumption) _ _ rfl | ((repeat first | rewrite [wr_na (by decide)] | rewrite [wr_nk (by decide)] | rewrite [wa_na (by decide)]); first | assumption | exact LK.at (by assumption) _ _ rfl) | exact rfl) ?_
          refine g_callV (q := 43) lX11_427 mX0_become nX0_become rfl (c_bookBecome (d + 1) sh _ (bkAt_b S L hb) hk (by omega) hZ.1.1 hZ.1.2 (fun j a b => hR j a (by have := hZ.1.2; omega))) sb rfl rfl shLe.rf (rmOk.mk (by omega) (by first | exact shLe.rf | assumption)) (Nat.le_of_ble_eq_true rfl) dX11_restore_40 rfl rfl (kN fun c1 hp => ?_)
          have L1 : LK c1 := by rw [hp]; exact L.bb hb4
          obtain ⟨-, l47', -, la2', -, h6'⟩ := at_img S L1 i0 c_6
          refine g_aload_n (q := 44) dX11_restore_43 rfl rfl ?_
          refine g_getO (q := 47) (kI := 4) fX11_30 (by first | assumption | exact S.at _ rfl) dX11_restore_44 rfl rfl (by first | assumption | exact L.at _ _ rfl | exact LK.at (by assumption) _ _ rfl | ((repeat first | rewrite [wr_na (by decide)] | rewrite [wr_nk (by decide)] | rewrite [wa_na (by decide)]); first | assumption | exact LK.at (by assumption) _ _ rfl) | exact rfl) ?_
          refine g_aload_n (q := 48) dX11_restore_47 rfl rfl ?_
          refine g_getA (q := 51) (kI := 8) fX11_53 (by first | assumption | exact S.at _ rfl) dX11_restore_48 rfl rfl (by first | assumption | exact L.at _ _ rfl | exact LK.at (by assumption) _ _ rfl | ((repeat first | rewrite [wr_na (by decide)] | rewrite [wr_nk (by decide)] | rewrite [wa_na (by decide)]); first | assumption | exact LK.at (by assumption) _ _ rfl) | exact rfl) ?_
          refine g_iload_n (q := 52) dX11_restore_51 rfl rfl ?_
          refine g_aaload (q := 53) (S.at _ rfl) (by decide) i0 (by omega) (by omega) l47' dX11_restore_52 rfl ?_
          refine g_getO (q := 56) (kI := 2) fX11_429 (by first | assumption | exact S.at _ rfl) dX11_restore_53 rfl rfl (by first | assumption | exact L.at _ _ rfl | exact LK.at (by assumption) _ _ rfl | ((repeat first | rewrite [wr_na (by decide)] | rewrite [wr_nk (by decide)] | rewrite [wa_na (by decide)]); first | assumption | exact LK.at (by assumption) _ _ rfl) | exact rfl) ?_
          refine g_callV (q := 59) lX11_184 mX8_become nX8_become rfl (c_become (d + 1) sh _ (sitAt_n S L1 (Or.inl rfl)) h6') (by first | assumption | exact S.at _ rfl) rfl rfl shLe.rf (rmOk.mk (by omega) (by first | exact shLe.rf | assumption)) (Nat.le_of_ble_eq_true rfl) dX11_restore_56 rfl rfl (kN fun c2 hp2 => ?_)
          have L2 : LK c2 := by rw [hp2]; exact L1.be rfl rfl (fun k => lkF_none rfl k)
          refine g_aload_n (q := 60) dX11_restore_59 rfl rfl ?_
          refine g_getO (q := 63) (kI := 6) fX11_40 (by first | assumption | exact S.at _ rfl) dX11_restore_60 rfl rfl (by first | assumption | exact L.at _ _ rfl | exact LK.at (by assumption) _ _ rfl | ((repeat first | rewrite [wr_na (by decide)] | rewrite [wr_nk (by decide)] | rewrite [wa_na (by decide)]); first | assumption | exact LK.at (by assumption) _ _ rfl) | exact rfl) ?_
          refine g_callV (q := 66) lX11_123 mX5_empty nX5_empty rfl (c_empty (d + 2) sh _ (S.at 16 rfl)) (by first | assumption | exact S.at _ rfl) rfl rfl shLe.rf (rmOk.mk (by omega) (by first | exact shLe.rf | assumption)) (Nat.le_of_ble_eq_true rfl) dX11_restore_63 rfl rfl (kN fun c3 hp3 => ?_)
          have L3 : LK c3 := by rw [hp3]; exact L2.wr rfl
          have kb : ∀ j, 0 ≤ j → j ≤ 10 → c3 b j = ct (48 + 8 * i + 1) j := fun j a b => by
            rw [hp3, hp2, hp]
            simp only [wr, beC, bbC]
            rw [if_neg (by omega), if_neg (by omega), if_neg (by omega), if_neg (by omega), if_pos ⟨trivial, a, b⟩]
          have kb2 : ∀ j, 0 ≤ j → j < 8 → c3 (b + 2) j = ct (48 + 8 * i + 1 + 2) j := fun j a b => by
            rw [hp3, hp2, hp]
            simp only [wr, beC, bbC]
            rw [if_neg (by omega), if_neg (by omega), if_neg (by omega), if_neg (by omega), if_neg (by omega), if_neg (by omega), if_pos ⟨trivial, a, b⟩]
          have kb3 : ∀ j, 0 ≤ j → j < 8 → c3 (b + 3) j = ct (48 + 8 * i + 1 + 3) j := fun j a b => by
            rw [hp3, hp2, hp]
            simp only [wr, beC, bbC]
            rw [if_neg (by omega), if_neg (by omega), if_neg (by omega), if_neg (by omega), if_neg (by omega), if_neg (by omega), if_neg (by omega), if_pos ⟨trivial, a, b⟩]
          have kb4 : ∀ j, c3 (b + 4) j = if 0 ≤ j ∧ j < ct (48 + 8 * i + 1) 6 then ct (48 + 8 * i + 1 + 4) j else ct (b + 4) j := fun j => by
            rw [hp3, hp2, hp]
            simp only [wr, beC, bbC]
            rw [if_neg (by omega), if_neg (by omega), if_neg (by omega), if_neg (by omega), if_neg (by omega), if_neg (by omega), if_neg (by omega), if_neg (by omega)]
            by_cases hj : 0 ≤ j ∧ j < ct (48 + 8 * i + 1) 6
            · rw [if_pos ⟨trivial, hj⟩, if_pos hj]
            · rw [if_neg (fun z => hj z.2), if_neg hj]
          have c1o : ∀ x : Int, 11 < x → c1 x = ct x := fun x hx => by
            funext j
            rw [hp]
            simp only [bbC]
            rw [if_neg (by omega), if_neg (by omega), if_neg (by omega), if_neg (by omega), if_neg (by omega)]
          have hs3 : sitC c3 12 (si i) := by
            rw [hp3, hp2]
            refine ⟨?_, ?_, fun m m0 m1 => ?_⟩
            · simp only [wr, beC]
              rw [if_neg (by omega), if_pos ⟨trivial, trivial⟩, c1o _ (by omega)]
              exact hsi.1
            · simp only [wr, beC]
              rw [if_neg (by omega), if_neg (by omega), if_pos ⟨trivial, trivial⟩, c1o _ (by omega)]
              exact hsi.2.1
            · simp only [wr, beC]
              rw [if_neg (by omega), if_neg (by omega), if_neg (by omega), if_pos ⟨trivial, m0, m1⟩, c1o _ (by omega)]
              exact hsi.2.2 m m0 m1
          have oth : ∀ x : Int, x ∉ [b, b + 1, b + 2, b + 3, b + 4, 12, 13, 16] → c3 x = ct x := fun x hx => by
            simp at hx
            funext j
            rw [hp3, hp2, hp]
            simp only [wr, beC, bbC]
            rw [if_neg (by omega), if_neg (by omega), if_neg (by omega), if_neg (by omega), if_neg (by omega), if_neg (by omega), if_neg (by omega), if_neg (by omega), if_neg (by omega)]
          have h02' : c3 0 2 = b := by rw [oth 0 (by simp; omega)]; exact h02
          have hcp := bk_cp (ct := ct) (c := c3) (b := b) (o := 48 + 8 * i + 1) hW hZ kb kb2 kb3 (fun j a b => by rw [kb4, if_pos ⟨a, b⟩])
          have hE3 : bkE (bkOf c3 b) (bi i) := hcp.1.tr hE
          have hR3 : shR c3 b := fun j a b => by
            rw [kb4]
            split
            · exact hR j a b
            · exact R j a b
          have p161 : c3 16 1 = ct 16 1 := by
            rw [hp3, hp2, wr_nk (by decide)]
            simp only [beC]
            rw [if_neg (by omega), if_neg (by omega), if_neg (by omega), c1o _ (by omega)]
          have p162 : c3 16 2 = 0 := by rw [hp3]; exact wr_eq
          refine g_aload_n (q := 67) dX11_restore_66 rfl rfl ?_
          refine g_getO (q := 70) (kI := 11) fX11_79 (by first | assumption | exact S.at _ rfl) dX11_restore_67 rfl rfl (by first | assumption | exact L.at _ _ rfl | exact LK.at (by assumption) _ _ rfl | ((repeat first | rewrite [wr_na (by decide)] | rewrite [wr_nk (by decide)] | rewrite [wa_na (by decide)]); first | assumption | exact LK.at (by assumption) _ _ rfl) | exact rfl) ?_
          refine g_aload_n (q := 71) dX11_restore_70 rfl rfl ?_
          refine g_getO (q := 74) (kI := 2) fX11_20 (by first | assumption | exact S.at _ rfl) dX11_restore_71 rfl rfl (by first | assumption | exact L.at _ _ rfl | exact LK.at (by assumption) _ _ rfl | ((repeat first | rewrite [wr_na (by decide)] | rewrite [wr_nk (by decide)] | rewrite [wa_na (by decide)]); first | assumption | exact LK.at (by assumption) _ _ rfl) | exact rfl) ?_
          refine g_callV (q := 77) lX11_126 mX4_settle nX4_settle rfl (x_settle d sh _ S X hV L3 X.hb (fun x hx => oth x (by simp; omega)) h02' hs3 hsB (hE3.cn hcn) (hE3.B hB) hcp.2.1 hR3) (by first | assumption | exact S.at _ rfl) rfl rfl shLe.rf (rmOk.mk (by omega) (by first | exact shLe.rf | assumption)) (Nat.le_of_ble_eq_true rfl) dX11_restore_74 rfl rfl (kN fun c4 hp4 => ?_)
          obtain ⟨X4, e4⟩ := hp4
          have fb0 : c4 b = c3 b := e4 b (by simp; omega)
          have fb4 : c4 (b + 4) = c3 (b + 4) := e4 _ (by simp; omega)
          refine g_iconst (q := 78) dX11_restore_77 rfl ?_
          refine g_ireturn dX11_restore_78 rfl ?_
          rw [← hP]
          refine ⟨_, rfl, Or.inr (Or.inr ⟨i01, hi1, rfl, ⟨_, hE3, X4, ?_⟩, ?_, ?_, ?_⟩)⟩
          · refine ⟨by rw [e4 16 (by decide), p161]; exact P.1, by rw [e4 16 (by decide)]; exact p162, by omega, fun k k0 k1 => by omega⟩
          · have := hcp.2.2
            unfold bkZ at *
            rw [fb0]
            exact this
          · unfold shR
            rw [fb4]
            exact hR3
          · intro x hx
            rw [e4 x (by simp at hx ⊢; omega)]
            exact oth x (by simp at hx ⊢; omega)
        · exact absurd c_21 (by decide)
    · rw [wi, show w32 2 = 2 from rfl] at c_6
      exact bad (by omega)
end
