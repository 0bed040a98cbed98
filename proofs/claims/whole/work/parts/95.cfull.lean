/-! MinuteBook: minutes in which all have said something; the queue may grow -/
theorem dX11_fullBy_0 : decode cX11_fullBy 0 = .ok (.aload_n 0, 1) := by decide +kernel
theorem dX11_fullBy_1 : decode cX11_fullBy 1 = .ok (.getfield 79, 3) := by decide +kernel
theorem dX11_fullBy_4 : decode cX11_fullBy 4 = .ok (.aload_n 0, 1) := by decide +kernel
theorem dX11_fullBy_5 : decode cX11_fullBy 5 = .ok (.getfield 30, 3) := by decide +kernel
theorem dX11_fullBy_8 : decode cX11_fullBy 8 = .ok (.getfield 139, 3) := by decide +kernel
theorem dX11_fullBy_11 : decode cX11_fullBy 11 = .ok (.invokevirtual 273, 3) := by decide +kernel
theorem dX11_fullBy_14 : decode cX11_fullBy 14 = .ok (.aload_n 0, 1) := by decide +kernel
theorem dX11_fullBy_15 : decode cX11_fullBy 15 = .ok (.getfield 88, 3) := by decide +kernel
theorem dX11_fullBy_18 : decode cX11_fullBy 18 = .ok (.aload_n 0, 1) := by decide +kernel
theorem dX11_fullBy_19 : decode cX11_fullBy 19 = .ok (.getfield 30, 3) := by decide +kernel
theorem dX11_fullBy_22 : decode cX11_fullBy 22 = .ok (.getfield 151, 3) := by decide +kernel
theorem dX11_fullBy_25 : decode cX11_fullBy 25 = .ok (.iload_n 1, 1) := by decide +kernel
theorem dX11_fullBy_26 : decode cX11_fullBy 26 = .ok (.ldc2_w 255, 3) := by decide +kernel
theorem dX11_fullBy_29 : decode cX11_fullBy 29 = .ok (.bipush 9, 2) := by decide +kernel
theorem dX11_fullBy_31 : decode cX11_fullBy 31 = .ok (.iconst 1, 1) := by decide +kernel
theorem dX11_fullBy_32 : decode cX11_fullBy 32 = .ok (.aload_n 0, 1) := by decide +kernel
theorem dX11_fullBy_33 : decode cX11_fullBy 33 = .ok (.getfield 20, 3) := by decide +kernel
theorem dX11_fullBy_36 : decode cX11_fullBy 36 = .ok (.getfield 284, 3) := by decide +kernel
theorem dX11_fullBy_39 : decode cX11_fullBy 39 = .ok (.ishl, 1) := by decide +kernel
theorem dX11_fullBy_40 : decode cX11_fullBy 40 = .ok (.iconst 1, 1) := by decide +kernel
theorem dX11_fullBy_41 : decode cX11_fullBy 41 = .ok (.isub, 1) := by decide +kernel
theorem dX11_fullBy_42 : decode cX11_fullBy 42 = .ok (.invokevirtual 309, 3) := by decide +kernel
theorem dX11_fullBy_45 : decode cX11_fullBy 45 = .ok (.ireturn, 1) := by decide +kernel
theorem dX11_full_0 : decode cX11_full 0 = .ok (.iload_n 1, 1) := by decide +kernel
theorem dX11_full_1 : decode cX11_full 1 = .ok (.invokestatic 252, 3) := by decide +kernel
theorem dX11_full_4 : decode cX11_full 4 = .ok (.ifCond .eq 11, 3) := by decide +kernel
theorem dX11_full_7 : decode cX11_full 7 = .ok (.aload_n 0, 1) := by decide +kernel
theorem dX11_full_8 : decode cX11_full 8 = .ok (.iload_n 1, 1) := by decide +kernel
theorem dX11_full_9 : decode cX11_full 9 = .ok (.invokevirtual 287, 3) := by decide +kernel
theorem dX11_full_12 : decode cX11_full 12 = .ok (.goto 5, 3) := by decide +kernel
theorem dX11_full_15 : decode cX11_full 15 = .ok (.bipush (-3), 2) := by decide +kernel
theorem dX11_full_17 : decode cX11_full 17 = .ok (.ireturn, 1) := by decide +kernel
theorem dX11_fullMinute_0 : decode cX11_fullMinute 0 = .ok (.iload_n 1, 1) := by decide +kernel
theorem dX11_fullMinute_1 : decode cX11_fullMinute 1 = .ok (.invokestatic 252, 3) := by decide +kernel
theorem dX11_fullMinute_4 : decode cX11_fullMinute 4 = .ok (.ifCond .eq 7, 3) := by decide +kernel
theorem dX11_fullMinute_7 : decode cX11_fullMinute 7 = .ok (.iload_n 2, 1) := by decide +kernel
theorem dX11_fullMinute_8 : decode cX11_fullMinute 8 = .ok (.ifCond .ge 6, 3) := by decide +kernel
theorem dX11_fullMinute_11 : decode cX11_fullMinute 11 = .ok (.bipush (-3), 2) := by decide +kernel
theorem dX11_fullMinute_13 : decode cX11_fullMinute 13 = .ok (.ireturn, 1) := by decide +kernel
theorem dX11_fullMinute_14 : decode cX11_fullMinute 14 = .ok (.aload_n 0, 1) := by decide +kernel
theorem dX11_fullMinute_15 : decode cX11_fullMinute 15 = .ok (.iload_n 1, 1) := by decide +kernel
theorem dX11_fullMinute_16 : decode cX11_fullMinute 16 = .ok (.invokevirtual 287, 3) := by decide +kernel
theorem dX11_fullMinute_19 : decode cX11_fullMinute 19 = .ok (.pop, 1) := by decide +kernel
theorem dX11_fullMinute_20 : decode cX11_fullMinute 20 = .ok (.aload_n 0, 1) := by decide +kernel
theorem dX11_fullMinute_21 : decode cX11_fullMinute 21 = .ok (.getfield 88, 3) := by decide +kernel
theorem dX11_fullMinute_24 : decode cX11_fullMinute 24 = .ok (.iload_n 2, 1) := by decide +kernel
theorem dX11_fullMinute_25 : decode cX11_fullMinute 25 = .ok (.invokevirtual 261, 3) := by decide +kernel
theorem dX11_fullMinute_28 : decode cX11_fullMinute 28 = .ok (.ireturn, 1) := by decide +kernel
def shF (sh : mbSh) (N M : Nat) : mbSh := if N < ndM M then sh ++ [(20, ndM M)] else sh
def qF (sh : mbSh) (q : Int) (N M : Nat) : Int := if N < ndM M then sh.length else q
def NF (N M : Nat) : Nat := if N < ndM M then ndM M else N
/-- what the questions leave as it was -/
def kG (ct c : mbCt) : Prop := ∀ x : Int, x < 114 → x ∉ (78 :: KF) → c x = ct x
theorem kG.rf {ct : mbCt} : kG ct ct := fun _ _ _ => rfl
theorem kG.tr {a b c : mbCt} (h : kG a b) (h2 : kG b c) : kG a c := fun x h0 h1 => (h2 x h0 h1).trans (h x h0 h1)
theorem kF.g {q : Int} {ct c : mbCt} (h : kF q ct c) (hq : qcN q) : kG ct c := fun x h0 h1 => h x (fun z => h1 (List.mem_cons_of_mem _ z)) (q_ne hq h0 (fun z => h1 (by rw [z]; simp)))
theorem shF_le {sh : mbSh} {N M : Nat} : shLe sh (shF sh N M) := by
  unfold shF
  split
  · exact shLe.app _ _
  · exact shLe.rf
theorem SH.F {sh : mbSh} {N M : Nat} (S : SH sh) (hl : 114 ≤ sh.length) : SH (shF sh N M) := by
  unfold shF
  split
  · exact S.app hl
  · exact S
section
variable {sh : mbSh} {ct c : mbCt} {b : Int} {β : Bk} {s : Sit} {q q2 : Int} {N N2 : Nat} {V W : Int} {mk : Int → Int}
theorem CK.find2 (h : CK ct b β mk q N) (hq : qcN q2) (e : eqBq [68, 69, 72, 73, 75, 76, 77, 79] q2 ct c) (hM : MV c b β mk) (hW : WI c q2 N2 β mk) : CK c b β mk q2 N2 := by
  have f : ∀ x : Int, x ∉ ([68, 69, 72, 73, 75, 76, 77, 79] : List Int) → x < 114 → x ≠ 78 → c x = ct x := fun x h1 h2 h3 => e x h1 (q_ne hq h2 h3)
  refine ⟨hM, h.2.1, hW, h.2.2.2.1.cg (f 70 (by decide) (by decide) (by decide)) (f 87 (by decide) (by decide) (by decide)) (f 88 (by decide) (by decide) (by decide)) (f 89 (by decide) (by decide) (by decide)), h.2.2.2.2.cg (by rw [f 70 (by decide) (by decide) (by decide)]) (fun x h0 h1 => f x (by simp; omega) (by omega) (by omega))⟩
theorem CY.k2 {sh2 : mbSh} (h : CY sh ct b β s q N V) (e : kG ct c) (hk : CK c b β s.2.2 q2 N2) (h70 : c 70 7 = ct 70 7) (sq : shA sh2 q2 = some (20, N2)) : CY sh2 c b β s q2 N2 V := by
  have f : ∀ x : Int, x < 68 → c x = ct x := fun x hx => e x (by omega) (by unfold KF; simp; omega)
  exact ⟨by rw [f 0 (by decide)]; exact h.1, h.2.1.cg (f 12 (by decide)) (f 13 (by decide)), h.2.2.1, hk, sq, by rw [h70]; exact h.2.2.2.2.2.1, h.2.2.2.2.2.2⟩
end
section
variable (d : Nat) (sh : mbSh) (ct : mbCt) {b : Int} {β : Bk} {s : Sit} {q : Int} {N M : Nat} {V : Int}
theorem x_findF {tone use cap : Int} (S : SH sh) (hl : 114 ≤ sh.length) (Y : CY sh ct b β s q N V) (t0 : -1 ≤ tone) (t1 : tone ≤ 10) (c0 : 0 ≤ cap) (c1 : cap ≤ 9) (hcool : s.1 / 7 % 10 ≤ cap) (hM6 : M ≤ 6) (hMn : (M : Int) = β.n 2) : Mt YX10_find (d + 4) [.inr (.inr 77), .inl s.1, .inl tone, .inr (.inl use), .inl cap, .inl (wM M)] sh (shF sh N M) ct (pI fun r c => SB c β s (qF sh q N M) (NF N M) tone use cap M r ∧ CY (shF sh N M) c b β s (qF sh q N M) (NF N M) V ∧ kG ct c) := by
  have hq := Y.x.qc
  have hK := Y.2.2.2.1
  have hrg := Y.2.2.1.1.1
  by_cases hN : N < ndM M
  · have e1 : shF sh N M = sh ++ [(20, ndM M)] := if_pos hN
    have e2 : qF sh q N M = sh.length := if_pos hN
    have e3 : NF N M = ndM M := if_pos hN
    rw [e1, e2, e3]
    have hq2 : qcN sh.length := Or.inr (by omega)
    refine Mt.imp (c_find1 (M := M) d sh ct S hl hK.1 hK.2.2.1 Y.2.2.2.2.1 hrg.1 hrg.2 t0 t1 c0 c1 ((cool_iff c1).mpr hcool) hM6 (Or.inr hMn) hN) ?_
    rintro r c ⟨x, rfl, rfl, e, hM, hW, hD, h6, h7, h8, h9, h10, h11⟩
    have e' : kF sh.length ct c := e.mono (by decide)
    have e70 : c 70 7 = ct 70 7 := by rw [e 70 (by decide) (q_ne hq2 (by decide) (by decide))]
    exact ⟨_, rfl, ⟨rfl, hD, h7, h8, h9, h10, h11⟩, Y.k2 (e'.g hq2) (hK.find2 hq2 e hM hW) e70 shA_end, e'.g hq2⟩
  · have e1 : shF sh N M = sh := if_neg hN
    have e2 : qF sh q N M = q := if_neg hN
    have e3 : NF N M = N := if_neg hN
    rw [e1, e2, e3]
    refine Mt.imp (c_find (M := M) d sh ct S hK.1 hK.2.2.1 Y.2.2.2.2.1 hrg.1 hrg.2 t0 t1 c0 c1 ((cool_iff c1).mpr hcool) hM6 (Or.inr hMn) (by omega)) ?_
    rintro r c ⟨x, rfl, rfl, e, hM, hW, hD, h6, h7, h8, h9, h10, h11⟩
    have e' : kF q ct c := e.mono (by decide)
    have e70 : c 70 7 = ct 70 7 := by rw [e 70 (by decide) (q_ne hq (by decide) (by decide))]
    exact ⟨_, rfl, ⟨rfl, hD, h7, h8, h9, h10, h11⟩, Y.k2 (e'.g hq) (hK.find2 hq e hM hW) e70 Y.2.2.2.2.1, e'.g hq⟩
theorem x_fullBy {tone : Int} (S : SH sh) (hl : 114 ≤ sh.length) (X : CX sh ct b β s q N V) (hV : V + 1 < 900000) (t0 : -1 ≤ tone) (t1 : tone ≤ 10) (hMn : M = (β.n 2).toNat) : Mt YX11_fullBy (d + 5) [.inr (.inr 0), .inl tone] sh (shF sh N M) ct (pI fun r c => SB c β s (qF sh q N M) (NF N M) tone 281474976710655 9 M r ∧ CY (shF sh N M) c b β s (qF sh q N M) (NF N M) (V + 1) ∧ kG ct c) := by
  have L := X.L
  have hq := X.qc
  have hb2 := X.2.2.1.2.2.2.2.1
  have hle : shLe sh (shF sh N M) := shF_le
  refine Mt.of rfl (Nat.le_of_ble_eq_true rfl) ?_
  show G _ 0 [some (.inr (.inr 0)), some (.inl tone)] [] sh ct
  refine g_aload_n (q := 1) dX11_fullBy_0 rfl rfl ?_
  refine g_getO (q := 4) (kI := 11) fX11_79 (by first | assumption | exact S.at _ rfl) dX11_fullBy_1 rfl rfl (by first | assumption | exact L.at _ _ rfl | exact LK.at (by assumption) _ _ rfl | ((repeat first | rewrite [wr_na (by decide)] | rewrite [wr_nk (by decide)] | rewrite [wa_na (by decide)]); first | assumption | exact LK.at (by assumption) _ _ rfl) | exact rfl) ?_
  refine g_aload_n (q := 5) dX11_fullBy_4 rfl rfl ?_
  refine g_getO (q := 8) (kI := 4) fX11_30 (by first | assumption | exact S.at _ rfl) dX11_fullBy_5 rfl rfl (by first | assumption | exact L.at _ _ rfl | exact LK.at (by assumption) _ _ rfl | ((repeat first | rewrite [wr_na (by decide)] | rewrite [wr_nk (by decide)] | rewrite [wa_na (by decide)]); first | assumption | exact LK.at (by assumption) _ _ rfl) | exact rfl) ?_
  refine g_getA (q := 11) (kI := 2) fX11_139 (by first | assumption | exact S.at _ rfl) dX11_fullBy_8 rfl rfl (by first | assumption | exact L.at _ _ rfl | exact LK.at (by assumption) _ _ rfl | ((repeat first | rewrite [wr_na (by decide)] | rewrite [wr_nk (by decide)] | rewrite [wa_na (by decide)]); first | assumption | exact LK.at (by assumption) _ _ rfl) | exact rfl) ?_
  refine g_callV (q := 14) lX11_273 mX4_heed nX4_heed rfl (x_heed (d + 3) sh _ S X hV) (by first | assumption | exact S.at _ rfl) rfl rfl shLe.rf (rmOk.mk (by omega) (by first | exact shLe.rf | assumption)) (Nat.le_of_ble_eq_true rfl) dX11_fullBy_11 rfl rfl (kN fun c1 hp => ?_)
  obtain ⟨Y, f1⟩ := hp
  have L1 := Y.x.L
  have hst : c1 12 0 = s.1 := Y.2.1.1
  have h02 := Y.1
  have sb := (Y.x.bb S).1
  have hn2 := Y.x.n 2
  refine g_aload_n (q := 15) dX11_fullBy_14 rfl rfl ?_
  refine g_getO (q := 18) (kI := 12) fX11_88 (by first | assumption | exact S.at _ rfl) dX11_fullBy_15 rfl rfl (by first | assumption | exact L.at _ _ rfl | exact LK.at (by assumption) _ _ rfl | ((repeat first | rewrite [wr_na (by decide)] | rewrite [wr_nk (by decide)] | rewrite [wa_na (by decide)]); first | assumption | exact LK.at (by assumption) _ _ rfl) | exact rfl) ?_
  refine g_aload_n (q := 19) dX11_fullBy_18 rfl rfl ?_
  refine g_getO (q := 22) (kI := 4) fX11_30 (by first | assumption | exact S.at _ rfl) dX11_fullBy_19 rfl rfl (by first | assumption | exact L.at _ _ rfl | exact LK.at (by assumption) _ _ rfl | ((repeat first | rewrite [wr_na (by decide)] | rewrite [wr_nk (by decide)] | rewrite [wa_na (by decide)]); first | assumption | exact LK.at (by assumption) _ _ rfl) | exact rfl) ?_
  refine g_getI (q := 25) (kI := 0) fX11_151 (by first | assumption | exact S.at _ rfl) dX11_fullBy_22 rfl rfl ?_
  rw [hst]
  refine g_iload_n (q := 26) dX11_fullBy_25 rfl rfl ?_
  refine g_ldc2 (q := 29) dX11_fullBy_26 kX11_255 rfl ?_
  refine g_bipush (q := 31) dX11_fullBy_29 (by decide +kernel) rfl ?_
  refine g_iconst (q := 32) dX11_fullBy_31 rfl ?_
  refine g_aload_n (q := 33) dX11_fullBy_32 rfl rfl ?_
  refine g_getO (q := 36) (kI := 2) fX11_20 (by first | assumption | exact S.at _ rfl) dX11_fullBy_33 rfl rfl (by first | assumption | exact L.at _ _ rfl | exact LK.at (by assumption) _ _ rfl | ((repeat first | rewrite [wr_na (by decide)] | rewrite [wr_nk (by decide)] | rewrite [wa_na (by decide)]); first | assumption | exact LK.at (by assumption) _ _ rfl) | exact rfl) ?_
  refine g_getI (q := 39) (kI := 2) fX11_284 (by first | assumption | exact S.at _ rfl) dX11_fullBy_36 rfl rfl ?_
  refine g_ishl (q := 40) dX11_fullBy_39 rfl ?_
  refine g_iconst (q := 41) dX11_fullBy_40 rfl ?_
  refine g_isub (q := 42) dX11_fullBy_41 rfl ?_
  have hwM : shlI 1 (c1 b 2) - 1 = wM M := by
    rw [hn2]
    have := shlI_1 (m := (β.n 2).toNat) (by omega)
    rw [show (((β.n 2).toNat : Nat) : Int) = β.n 2 by omega] at this
    rw [this, hMn]
    unfold wM
    have : 0 < 2 ^ (β.n 2).toNat := Nat.pow_pos (by decide)
    omega
  rw [hwM]
  refine g_callV (q := 45) lX11_309 mX10_find nX10_find rfl (x_findF d sh _ S hl Y t0 t1 (by decide) (by decide) (by omega) (M := M) (by omega) (by omega)) (by first | assumption | exact S.at _ rfl) rfl rfl hle (rmOk.mk (by omega) (by first | exact shLe.rf | assumption)) (Nat.le_of_ble_eq_true rfl) dX11_fullBy_42 rfl rfl (kI fun r c2 hp => ?_)
  obtain ⟨h1, h2, h3⟩ := hp
  refine g_ireturn dX11_fullBy_45 rfl ?_
  exact ⟨_, rfl, h1, h2, (f1.g hq).tr h3⟩
theorem x_full {tone : Int} (S : SH sh) (hl : 114 ≤ sh.length) (X : CX sh ct b β s q N V) (hV : V + 1 < 900000) (ht : i32 tone) (hMn : M = (β.n 2).toNat) (htn : isTn tone) : Mt YX11_full (d + 6) [.inr (.inr 0), .inl tone] sh (shF sh N M) ct (pI fun r c => qFull β s.2.2 s.1 tone r ∧ CX (shF sh N M) c b β s (qF sh q N M) (NF N M) (V + 1) ∧ kG ct c) := by
  have hle : shLe sh (shF sh N M) := shF_le
  refine Mt.of rfl (Nat.le_of_ble_eq_true rfl) ?_
  show G _ 0 [some (.inr (.inr 0)), some (.inl tone)] [] sh ct
  refine g_iload_n (q := 1) dX11_full_0 rfl rfl ?_
  refine g_callS (q := 4) lX11_252 mX11_isTone sX11_isTone rfl (x_isTone (d + 5) sh _ ht) shLe.rf (rmOk.mk (by omega) (by first | exact shLe.rf | assumption)) (Nat.le_of_ble_eq_true rfl) dX11_full_1 rfl rfl (kI fun r_ c_ hp => ?_)
  obtain ⟨hr, hq⟩ := hp
  replace hr := hr.symm
  replace hq := hq.symm
  subst hr hq
  refine g_if_eq (q := 7) (tg := 15) dX11_full_4 (by decide) rfl (fun c_4 => ?_) (fun c_4 => ?_)
  · exact absurd htn (wb0.mp c_4)
  · refine g_aload_n (q := 8) dX11_full_7 rfl rfl ?_
    refine g_iload_n (q := 9) dX11_full_8 rfl rfl ?_
    refine g_callV (q := 12) lX11_287 mX11_fullBy nX11_fullBy rfl (x_fullBy d sh _ S hl X hV htn.1 (by have := htn.2; omega) hMn) (by first | assumption | exact S.at _ rfl) rfl rfl hle (rmOk.mk (by omega) (by first | exact shLe.rf | assumption)) (Nat.le_of_ble_eq_true rfl) dX11_full_9 rfl rfl (kI fun r c2 hp => ?_)
    obtain ⟨h1, h2, h3⟩ := hp
    refine g_goto (q := 17) dX11_full_12 (by decide) ?_
    refine g_ireturn dX11_full_17 rfl ?_
    refine ⟨_, rfl, Or.inl ⟨htn, ?_⟩, h2.x, h3⟩
    rw [← hMn]
    exact h1.way use_all
theorem x_fullN {tone : Int} (S : SH sh) (ht : i32 tone) (htn : ¬ isTn tone) : Mt YX11_full (d + 6) [.inr (.inr 0), .inl tone] sh sh ct (pI fun r c => qFull β s.2.2 s.1 tone r ∧ c = ct) := by
  refine Mt.of rfl (Nat.le_of_ble_eq_true rfl) ?_
  show G _ 0 [some (.inr (.inr 0)), some (.inl tone)] [] sh ct
  refine g_iload_n (q := 1) dX11_full_0 rfl rfl ?_
  refine g_callS (q := 4) lX11_252 mX11_isTone sX11_isTone rfl (x_isTone (d + 5) sh _ ht) shLe.rf (rmOk.mk (by omega) (by first | exact shLe.rf | assumption)) (Nat.le_of_ble_eq_true rfl) dX11_full_1 rfl rfl (kI fun r_ c_ hp => ?_)
  obtain ⟨hr, hq⟩ := hp
  replace hr := hr.symm
  replace hq := hq.symm
  subst hr hq
  refine g_if_eq (q := 7) (tg := 15) dX11_full_4 (by decide) rfl (fun c_4 => ?_) (fun c_4 => ?_)
  · refine g_bipush (q := 17) dX11_full_15 (by decide +kernel) rfl ?_
    refine g_ireturn dX11_full_17 rfl ?_
    exact ⟨_, rfl, Or.inr ⟨htn, rfl⟩, rfl⟩
  · exact absurd (wbn.mp c_4) htn
theorem x_fullMinute {tone i : Int} (S : SH sh) (hl : 114 ≤ sh.length) (X : CX sh ct b β s q N V) (hV : V + 1 < 900000) (ht : i32 tone) (hi : i32 i) (hMn : M = (β.n 2).toNat) (htn : isTn tone) (hi0 : 0 ≤ i) : Mt YX11_fullMinute (d + 6) [.inr (.inr 0), .inl tone, .inl i] sh (shF sh N M) ct (pI fun r c => qMin β s.2.2 s.1 tone i M r ∧ CX (shF sh N M) c b β s (qF sh q N M) (NF N M) (V + 1) ∧ kG ct c) := by
  have hle : shLe sh (shF sh N M) := shF_le
  have S2 : SH (shF sh N M) := S.F hl
  unfold i32 at hi
  have w := w32_id hi.1 hi.2
  refine Mt.of rfl (Nat.le_of_ble_eq_true rfl) ?_
  show G _ 0 [some (.inr (.inr 0)), some (.inl tone), some (.inl i)] [] sh ct
  refine g_iload_n (q := 1) dX11_fullMinute_0 rfl rfl ?_
  refine g_callS (q := 4) lX11_252 mX11_isTone sX11_isTone rfl (x_isTone (d + 5) sh _ ht) shLe.rf (rmOk.mk (by omega) (by first | exact shLe.rf | assumption)) (Nat.le_of_ble_eq_true rfl) dX11_fullMinute_1 rfl rfl (kI fun r_ c_ hp => ?_)
  obtain ⟨hr, hq⟩ := hp
  replace hr := hr.symm
  replace hq := hq.symm
  subst hr hq
  refine g_if_eq (q := 7) (tg := 11) dX11_fullMinute_4 (by decide) rfl (fun c_4 => ?_) (fun c_4 => ?_)
  · exact absurd htn (wb0.mp c_4)
  · refine g_iload_n (q := 8) dX11_fullMinute_7 rfl rfl ?_
    refine g_if_ge (q := 11) (tg := 14) dX11_fullMinute_8 (by decide) rfl (fun c_8 => ?_) (fun c_8 => ?_)
    · refine g_aload_n (q := 15) dX11_fullMinute_14 rfl rfl ?_
      refine g_iload_n (q := 16) dX11_fullMinute_15 rfl rfl ?_
      refine g_callV (q := 19) lX11_287 mX11_fullBy nX11_fullBy rfl (x_fullBy d sh _ S hl X hV htn.1 (by have := htn.2; omega) hMn) (by first | assumption | exact S.at _ rfl) rfl rfl hle (rmOk.mk (by omega) (by first | exact shLe.rf | assumption)) (Nat.le_of_ble_eq_true rfl) dX11_fullMinute_16 rfl rfl (kI fun r c2 hp => ?_)
      obtain ⟨h1, h2, h3⟩ := hp
      have L2 := h2.x.L
      have S := S2
      refine g_pop (q := 20) dX11_fullMinute_19 rfl rfl ?_
      refine g_aload_n (q := 21) dX11_fullMinute_20 rfl rfl ?_
      refine g_getO (q := 24) (kI := 12) fX11_88 (by first | assumption | exact S.at _ rfl) dX11_fullMinute_21 rfl rfl (by first | assumption | exact L.at _ _ rfl | exact LK.at (by assumption) _ _ rfl | ((repeat first | rewrite [wr_na (by decide)] | rewrite [wr_nk (by decide)] | rewrite [wa_na (by decide)]); first | assumption | exact LK.at (by assumption) _ _ rfl) | exact rfl) ?_
      refine g_iload_n (q := 25) dX11_fullMinute_24 rfl rfl ?_
      refine g_callV (q := 28) lX11_261 mX10_minuteAt nX10_minuteAt rfl (x_minuteAt (d + 2) _ _ S2 h2 h1 use_all hi) (by first | assumption | exact S.at _ rfl) rfl rfl shLe.rf (rmOk.mk (by omega) (by first | exact shLe.rf | assumption)) (Nat.le_of_ble_eq_true rfl) dX11_fullMinute_25 rfl rfl (kI fun v c3 hp => ?_)
      obtain ⟨g1, g2, g3⟩ := hp
      refine g_ireturn dX11_fullMinute_28 rfl ?_
      exact ⟨_, rfl, Or.inl ⟨htn, hi0, g1⟩, g2.x, h3.tr (g3.g h2.x.qc)⟩
    · exact absurd c_8 (by omega)
theorem x_fullMinuteN {tone i : Int} (S : SH sh) (ht : i32 tone) (hi : i32 i) (htn : ¬ (isTn tone ∧ 0 ≤ i)) : Mt YX11_fullMinute (d + 6) [.inr (.inr 0), .inl tone, .inl i] sh sh ct (pI fun r c => qMin β s.2.2 s.1 tone i M r ∧ c = ct) := by
  unfold i32 at hi
  have w := w32_id hi.1 hi.2
  refine Mt.of rfl (Nat.le_of_ble_eq_true rfl) ?_
  show G _ 0 [some (.inr (.inr 0)), some (.inl tone), some (.inl i)] [] sh ct
  refine g_iload_n (q := 1) dX11_fullMinute_0 rfl rfl ?_
  refine g_callS (q := 4) lX11_252 mX11_isTone sX11_isTone rfl (x_isTone (d + 5) sh _ ht) shLe.rf (rmOk.mk (by omega) (by first | exact shLe.rf | assumption)) (Nat.le_of_ble_eq_true rfl) dX11_fullMinute_1 rfl rfl (kI fun r_ c_ hp => ?_)
  obtain ⟨hr, hq⟩ := hp
  replace hr := hr.symm
  replace hq := hq.symm
  subst hr hq
  refine g_if_eq (q := 7) (tg := 11) dX11_fullMinute_4 (by decide) rfl (fun c_4 => ?_) (fun c_4 => ?_)
  · refine g_bipush (q := 13) dX11_fullMinute_11 (by decide +kernel) rfl ?_
    refine g_ireturn dX11_fullMinute_13 rfl ?_
    exact ⟨_, rfl, Or.inr ⟨htn, rfl⟩, rfl⟩
  · refine g_iload_n (q := 8) dX11_fullMinute_7 rfl rfl ?_
    refine g_if_ge (q := 11) (tg := 14) dX11_fullMinute_8 (by decide) rfl (fun c_8 => ?_) (fun c_8 => ?_)
    · exact absurd ⟨wbn.mp c_4, by omega⟩ htn
    · refine g_bipush (q := 13) dX11_fullMinute_11 (by decide +kernel) rfl ?_
      refine g_ireturn dX11_fullMinute_13 rfl ?_
      exact ⟨_, rfl, Or.inr ⟨htn, rfl⟩, rfl⟩
end
