/-! the class reads sums and truths -/
section
variable (d : Nat) (sh : mbSh) {b T : Int} {K Pl : Int → Int} {om : Bool}
/-- a part of a law is read as it should be: by the method Y, within 6 - r -/
def RC (Y : mbY) (D : Nat) (sh : mbSh) (b T : Int) (K Pl : Int → Int) (om : Bool) (r : Nat) (P : PS → PS) : Prop := ∀ (ct : mbCt) (σ : PS), RD ct b T K Pl σ → gd T σ → ct 64 8 = b01 (om = true) → Mt Y D [.inr (.inr 64), .inl (6 - (r : Int))] sh sh ct (pN fun c => RD c b T K Pl (P σ) ∧ rdF b ct c)
theorem rdF.ofm {ct c : mbCt} (f : rdF b ct c) (h : ct 64 8 = b01 (om = true)) : c 64 8 = b01 (om = true) := by rw [f.1 8 (by decide) (by decide) (by decide) (by decide)]; exact h
theorem RD.into {ct : mbCt} {σ : PS} (D : RD ct b T K Pl σ) : ct 64 9 = b := D.1.2.2.1
theorem RD.toks {ct : mbCt} {σ : PS} (D : RD ct b T K Pl σ) : ct 64 5 = T := D.1.2.2.2.1

theorem r_readTerm {r nd : Nat} {P : PS → PS} (S : SH sh) (hr : r ≤ 6) (hQ : PQ T om False nd P) (hP : RC YX6_readAtom d sh b T K Pl om r P) : RC YX6_readTerm (d + 1) sh b T K Pl om r (fun σ => loopP T K isTi (fun _ => -9) P T.toNat (P σ)) := by
  intro ct σ D hg ho
  have hkd := D.kd
  have sb := (bkAt_b S D.L D.1.2.1).1
  generalize hPo : (pN fun c => RD c b T K Pl (loopP T K isTi (fun _ => -9) P T.toNat (P σ)) ∧ rdF b ct c) = Po
  refine Mt.of rfl (Nat.le_of_ble_eq_true rfl) ?_
  show G _ 0 [some (.inr (.inr 64)), some (.inl (6 - (r : Int))), none] [] sh ct
  refine g_aload_n (q := 1) dX6_readTerm_0 rfl rfl ?_
  refine g_iload_n (q := 2) dX6_readTerm_1 rfl rfl ?_
  refine g_callV (q := 5) lX6_196 mX6_readAtom nX6_readAtom rfl (hP ct σ D hg ho) (by first | assumption | exact S.at _ rfl) rfl rfl shLe.rf (rmOk.mk (by omega) (by first | exact shLe.rf | assumption)) (Nat.le_of_ble_eq_true rfl) dX6_readTerm_2 rfl rfl (kN fun c1 hp => ?_)
  obtain ⟨D1, f1⟩ := hp
  have g1 := (hQ σ hg).1
  refine g_iconst (q := 6) dX6_readTerm_5 rfl ?_
  refine s_istore_n_3_2 (q := 7) dX6_readTerm_6 rfl rfl rfl ?_
  refine g_forA (α := PS) (fun i a => [some (.inr (.inr 64)), some (.inl (6 - (r : Int))), some (.inl i)]) (fun i τ c => 0 ≤ i ∧ RD c b T K Pl τ ∧ gd T τ ∧ rdF b ct c ∧ loopP T K isTi (fun _ => -9) P (T - i).toNat τ = loopP T K isTi (fun _ => -9) P T.toNat (P σ)) T ?_ ?_ (i := 0) (a := P σ) (by have := hkd.1; omega) ⟨Int.le_refl _, D1, g1, f1, by rw [show T - 0 = T by omega]⟩ (by simp [lsSub])
  · rintro i τ c hi ⟨i0, D2, g2, f2, e2⟩ kk
    have L := D2.L
    have htb := D2.tb
    have hT := hkd.1
    have hto := D2.toks
    have h7 := D2.2.2.1
    refine g_iload_n (q := 8) dX6_readTerm_7 rfl rfl ?_
    refine g_aload_n (q := 9) dX6_readTerm_8 rfl rfl ?_
    refine g_getI (q := 12) (kI := 5) fX6_57 (by first | assumption | exact S.at _ rfl) dX6_readTerm_9 rfl rfl ?_
    rw [hto]
    refine g_icmp_ge (q := 15) (tg := 48) dX6_readTerm_12 (by decide) rfl (fun c_12 => ?_) (fun c_12 => ?_)
    · exact absurd c_12 (by rw [w32_id (x := i) (by omega) (by omega), w32_id (x := T) (by omega) (by omega)]; omega)
    · refine g_aload_n (q := 16) dX6_readTerm_15 rfl rfl ?_
      refine g_getI (q := 19) (kI := 7) fX6_51 (by first | assumption | exact S.at _ rfl) dX6_readTerm_16 rfl rfl ?_
      rw [h7]
      refine g_bipush (q := 21) dX6_readTerm_19 (by decide +kernel) rfl ?_
      refine g_icmp_ne (q := 24) (tg := 48) dX6_readTerm_21 (by decide) rfl (fun c_21 => ?_) (fun c_21 => ?_)
      · rw [w32_id (x := tkP K τ) (by omega) (by omega), show w32 42 = 42 from rfl] at c_21
        refine g_return dX6_readTerm_48 rfl ?_
        rw [← hPo]
        refine ⟨rfl, ?_, f2⟩
        rw [← e2, loopP_stop c_21]
        exact D2
      · rw [w32_id (x := tkP K τ) (by omega) (by omega), show w32 42 = 42 from rfl] at c_21
        have hop : isTi (tkP K τ) := by omega
        refine g_aload_n (q := 25) dX6_readTerm_24 rfl rfl ?_
        refine g_callV (q := 28) lX6_104 mX6_step nX6_step rfl (r_step 0 sh _ S D2) (by first | assumption | exact S.at _ rfl) rfl rfl shLe.rf (rmOk.mk (by omega) (by first | exact shLe.rf | assumption)) (Nat.le_of_ble_eq_true rfl) dX6_readTerm_25 rfl rfl (kN fun c3 hp => ?_)
        obtain ⟨D3, f3⟩ := hp
        refine g_aload_n (q := 29) dX6_readTerm_28 rfl rfl ?_
        refine g_iload_n (q := 30) dX6_readTerm_29 rfl rfl ?_
        refine g_callV (q := 33) lX6_196 mX6_readAtom nX6_readAtom rfl (hP _ _ D3 (stepP_gd g2).1 ((f2.tr f3).ofm ho)) (by first | assumption | exact S.at _ rfl) rfl rfl shLe.rf (rmOk.mk (by omega) (by first | exact shLe.rf | assumption)) (Nat.le_of_ble_eq_true rfl) dX6_readTerm_30 rfl rfl (kN fun c4 hp => ?_)
        obtain ⟨D4, f4⟩ := hp
        have L4 := D4.L
        have hin := D4.into
        have q4 := (hQ _ (stepP_gd g2).1).1
        have hrm := hQ.room hkd g2 (by omega) (by omega) (by omega)
        refine g_aload_n (q := 34) dX6_readTerm_33 rfl rfl ?_
        refine g_getO (q := 37) (kI := 9) fX6_26 (by first | assumption | exact S.at _ rfl) dX6_readTerm_34 rfl rfl hin ?_
        refine g_bipush (q := 39) dX6_readTerm_37 (by decide +kernel) rfl ?_
        refine g_callV (q := 42) lX6_181 mX0_addCode nX0_addCode rfl (r_code 0 sh _ S D4 (fun hw => (hrm hw).2) (op := -9) (by decide) (by decide)) sb rfl rfl shLe.rf (rmOk.mk (by omega) (by first | exact shLe.rf | assumption)) (Nat.le_of_ble_eq_true rfl) dX6_readTerm_39 rfl rfl (kN fun c5 hp => ?_)
        obtain ⟨D5, f5⟩ := hp
        refine s_iinc_3_2 (q := 45) dX6_readTerm_42 rfl rfl rfl ?_
        refine g_goto (q := 7) dX6_readTerm_45 (by decide) ?_
        refine kk (codeP (-9) (P (stepP T τ))) _ _ (by simp [lsSub]) ⟨by omega, D5, (codeP_gd q4 (fun hw => (hrm hw).1)).1, ((f2.tr f3).tr f4).tr f5, ?_⟩
        rw [← e2, show (T - i).toNat = (T - (i + 1)).toNat + 1 by omega, loopP_go hop]
  · rintro τ c ⟨i0, D2, g2, f2, e2⟩
    have hT := hkd.1
    have hto := D2.toks
    have L := D2.L
    refine g_iload_n (q := 8) dX6_readTerm_7 rfl rfl ?_
    refine g_aload_n (q := 9) dX6_readTerm_8 rfl rfl ?_
    refine g_getI (q := 12) (kI := 5) fX6_57 (by first | assumption | exact S.at _ rfl) dX6_readTerm_9 rfl rfl ?_
    rw [hto]
    refine g_icmp_ge (q := 15) (tg := 48) dX6_readTerm_12 (by decide) rfl (fun c_12 => ?_) (fun c_12 => ?_)
    · refine g_return dX6_readTerm_48 rfl ?_
      rw [← hPo]
      refine ⟨rfl, ?_, f2⟩
      rw [← e2, show (T - T).toNat = 0 by omega]
      exact D2
    · exact absurd c_12 (Int.lt_irrefl _)

theorem r_readBoth {r nd : Nat} {P : PS → PS} (S : SH sh) (hr : r ≤ 6) (hQ : PQ T om True nd P) (hP : RC YX6_readUnit d sh b T K Pl om r P) : RC YX6_readBoth (d + 1) sh b T K Pl om r (fun σ => loopP T K isAn (fun _ => -14) P T.toNat (P σ)) := by
  intro ct σ D hg ho
  have hkd := D.kd
  have sb := (bkAt_b S D.L D.1.2.1).1
  generalize hPo : (pN fun c => RD c b T K Pl (loopP T K isAn (fun _ => -14) P T.toNat (P σ)) ∧ rdF b ct c) = Po
  refine Mt.of rfl (Nat.le_of_ble_eq_true rfl) ?_
  show G _ 0 [some (.inr (.inr 64)), some (.inl (6 - (r : Int))), none] [] sh ct
  refine g_aload_n (q := 1) dX6_readBoth_0 rfl rfl ?_
  refine g_iload_n (q := 2) dX6_readBoth_1 rfl rfl ?_
  refine g_callV (q := 5) lX6_184 mX6_readUnit nX6_readUnit rfl (hP ct σ D hg ho) (by first | assumption | exact S.at _ rfl) rfl rfl shLe.rf (rmOk.mk (by omega) (by first | exact shLe.rf | assumption)) (Nat.le_of_ble_eq_true rfl) dX6_readBoth_2 rfl rfl (kN fun c1 hp => ?_)
  obtain ⟨D1, f1⟩ := hp
  have g1 := (hQ σ hg).1
  refine g_iconst (q := 6) dX6_readBoth_5 rfl ?_
  refine s_istore_n_3_2 (q := 7) dX6_readBoth_6 rfl rfl rfl ?_
  refine g_forA (α := PS) (fun i a => [some (.inr (.inr 64)), some (.inl (6 - (r : Int))), some (.inl i)]) (fun i τ c => 0 ≤ i ∧ RD c b T K Pl τ ∧ gd T τ ∧ rdF b ct c ∧ loopP T K isAn (fun _ => -14) P (T - i).toNat τ = loopP T K isAn (fun _ => -14) P T.toNat (P σ)) T ?_ ?_ (i := 0) (a := P σ) (by have := hkd.1; omega) ⟨Int.le_refl _, D1, g1, f1, by rw [show T - 0 = T by omega]⟩ (by simp [lsSub])
  · rintro i τ c hi ⟨i0, D2, g2, f2, e2⟩ kk
    have L := D2.L
    have htb := D2.tb
    have hT := hkd.1
    have hto := D2.toks
    have h7 := D2.2.2.1
    refine g_iload_n (q := 8) dX6_readBoth_7 rfl rfl ?_
    refine g_aload_n (q := 9) dX6_readBoth_8 rfl rfl ?_
    refine g_getI (q := 12) (kI := 5) fX6_57 (by first | assumption | exact S.at _ rfl) dX6_readBoth_9 rfl rfl ?_
    rw [hto]
    refine g_icmp_ge (q := 15) (tg := 49) dX6_readBoth_12 (by decide) rfl (fun c_12 => ?_) (fun c_12 => ?_)
    · exact absurd c_12 (by rw [w32_id (x := i) (by omega) (by omega), w32_id (x := T) (by omega) (by omega)]; omega)
    · refine g_aload_n (q := 16) dX6_readBoth_15 rfl rfl ?_
      refine g_getI (q := 19) (kI := 7) fX6_51 (by first | assumption | exact S.at _ rfl) dX6_readBoth_16 rfl rfl ?_
      rw [h7]
      refine g_sipush (q := 22) dX6_readBoth_19 (by decide +kernel) rfl ?_
      refine g_icmp_ne (q := 25) (tg := 49) dX6_readBoth_22 (by decide) rfl (fun c_22 => ?_) (fun c_22 => ?_)
      · rw [w32_id (x := tkP K τ) (by omega) (by omega), show w32 142 = 142 from rfl] at c_22
        refine g_return dX6_readBoth_49 rfl ?_
        rw [← hPo]
        refine ⟨rfl, ?_, f2⟩
        rw [← e2, loopP_stop c_22]
        exact D2
      · rw [w32_id (x := tkP K τ) (by omega) (by omega), show w32 142 = 142 from rfl] at c_22
        have hop : isAn (tkP K τ) := by omega
        refine g_aload_n (q := 26) dX6_readBoth_25 rfl rfl ?_
        refine g_callV (q := 29) lX6_104 mX6_step nX6_step rfl (r_step 0 sh _ S D2) (by first | assumption | exact S.at _ rfl) rfl rfl shLe.rf (rmOk.mk (by omega) (by first | exact shLe.rf | assumption)) (Nat.le_of_ble_eq_true rfl) dX6_readBoth_26 rfl rfl (kN fun c3 hp => ?_)
        obtain ⟨D3, f3⟩ := hp
        refine g_aload_n (q := 30) dX6_readBoth_29 rfl rfl ?_
        refine g_iload_n (q := 31) dX6_readBoth_30 rfl rfl ?_
        refine g_callV (q := 34) lX6_184 mX6_readUnit nX6_readUnit rfl (hP _ _ D3 (stepP_gd g2).1 ((f2.tr f3).ofm ho)) (by first | assumption | exact S.at _ rfl) rfl rfl shLe.rf (rmOk.mk (by omega) (by first | exact shLe.rf | assumption)) (Nat.le_of_ble_eq_true rfl) dX6_readBoth_31 rfl rfl (kN fun c4 hp => ?_)
        obtain ⟨D4, f4⟩ := hp
        have L4 := D4.L
        have hin := D4.into
        have q4 := (hQ _ (stepP_gd g2).1).1
        have hrm := hQ.room hkd g2 (by omega) (by omega) (by omega)
        refine g_aload_n (q := 35) dX6_readBoth_34 rfl rfl ?_
        refine g_getO (q := 38) (kI := 9) fX6_26 (by first | assumption | exact S.at _ rfl) dX6_readBoth_35 rfl rfl hin ?_
        refine g_bipush (q := 40) dX6_readBoth_38 (by decide +kernel) rfl ?_
        refine g_callV (q := 43) lX6_181 mX0_addCode nX0_addCode rfl (r_code 0 sh _ S D4 (fun hw => (hrm hw).2) (op := -14) (by decide) (by decide)) sb rfl rfl shLe.rf (rmOk.mk (by omega) (by first | exact shLe.rf | assumption)) (Nat.le_of_ble_eq_true rfl) dX6_readBoth_40 rfl rfl (kN fun c5 hp => ?_)
        obtain ⟨D5, f5⟩ := hp
        refine s_iinc_3_2 (q := 46) dX6_readBoth_43 rfl rfl rfl ?_
        refine g_goto (q := 7) dX6_readBoth_46 (by decide) ?_
        refine kk (codeP (-14) (P (stepP T τ))) _ _ (by simp [lsSub]) ⟨by omega, D5, (codeP_gd q4 (fun hw => (hrm hw).1)).1, ((f2.tr f3).tr f4).tr f5, ?_⟩
        rw [← e2, show (T - i).toNat = (T - (i + 1)).toNat + 1 by omega, loopP_go hop]
  · rintro τ c ⟨i0, D2, g2, f2, e2⟩
    have hT := hkd.1
    have hto := D2.toks
    have L := D2.L
    refine g_iload_n (q := 8) dX6_readBoth_7 rfl rfl ?_
    refine g_aload_n (q := 9) dX6_readBoth_8 rfl rfl ?_
    refine g_getI (q := 12) (kI := 5) fX6_57 (by first | assumption | exact S.at _ rfl) dX6_readBoth_9 rfl rfl ?_
    rw [hto]
    refine g_icmp_ge (q := 15) (tg := 49) dX6_readBoth_12 (by decide) rfl (fun c_12 => ?_) (fun c_12 => ?_)
    · refine g_return dX6_readBoth_49 rfl ?_
      rw [← hPo]
      refine ⟨rfl, ?_, f2⟩
      rw [← e2, show (T - T).toNat = 0 by omega]
      exact D2
    · exact absurd c_12 (Int.lt_irrefl _)

theorem r_readTruth {r nd : Nat} {P : PS → PS} (S : SH sh) (hr : r ≤ 6) (hQ : PQ T om True nd P) (hP : RC YX6_readBoth d sh b T K Pl om r P) : RC YX6_readTruth (d + 1) sh b T K Pl om r (fun σ => loopP T K isOr (fun _ => -15) P T.toNat (P σ)) := by
  intro ct σ D hg ho
  have hkd := D.kd
  have sb := (bkAt_b S D.L D.1.2.1).1
  generalize hPo : (pN fun c => RD c b T K Pl (loopP T K isOr (fun _ => -15) P T.toNat (P σ)) ∧ rdF b ct c) = Po
  refine Mt.of rfl (Nat.le_of_ble_eq_true rfl) ?_
  show G _ 0 [some (.inr (.inr 64)), some (.inl (6 - (r : Int))), none] [] sh ct
  refine g_aload_n (q := 1) dX6_readTruth_0 rfl rfl ?_
  refine g_iload_n (q := 2) dX6_readTruth_1 rfl rfl ?_
  refine g_callV (q := 5) lX6_178 mX6_readBoth nX6_readBoth rfl (hP ct σ D hg ho) (by first | assumption | exact S.at _ rfl) rfl rfl shLe.rf (rmOk.mk (by omega) (by first | exact shLe.rf | assumption)) (Nat.le_of_ble_eq_true rfl) dX6_readTruth_2 rfl rfl (kN fun c1 hp => ?_)
  obtain ⟨D1, f1⟩ := hp
  have g1 := (hQ σ hg).1
  refine g_iconst (q := 6) dX6_readTruth_5 rfl ?_
  refine s_istore_n_3_2 (q := 7) dX6_readTruth_6 rfl rfl rfl ?_
  refine g_forA (α := PS) (fun i a => [some (.inr (.inr 64)), some (.inl (6 - (r : Int))), some (.inl i)]) (fun i τ c => 0 ≤ i ∧ RD c b T K Pl τ ∧ gd T τ ∧ rdF b ct c ∧ loopP T K isOr (fun _ => -15) P (T - i).toNat τ = loopP T K isOr (fun _ => -15) P T.toNat (P σ)) T ?_ ?_ (i := 0) (a := P σ) (by have := hkd.1; omega) ⟨Int.le_refl _, D1, g1, f1, by rw [show T - 0 = T by omega]⟩ (by simp [lsSub])
  · rintro i τ c hi ⟨i0, D2, g2, f2, e2⟩ kk
    have L := D2.L
    have htb := D2.tb
    have hT := hkd.1
    have hto := D2.toks
    have h7 := D2.2.2.1
    refine g_iload_n (q := 8) dX6_readTruth_7 rfl rfl ?_
    refine g_aload_n (q := 9) dX6_readTruth_8 rfl rfl ?_
    refine g_getI (q := 12) (kI := 5) fX6_57 (by first | assumption | exact S.at _ rfl) dX6_readTruth_9 rfl rfl ?_
    rw [hto]
    refine g_icmp_ge (q := 15) (tg := 49) dX6_readTruth_12 (by decide) rfl (fun c_12 => ?_) (fun c_12 => ?_)
    · exact absurd c_12 (by rw [w32_id (x := i) (by omega) (by omega), w32_id (x := T) (by omega) (by omega)]; omega)
    · refine g_aload_n (q := 16) dX6_readTruth_15 rfl rfl ?_
      refine g_getI (q := 19) (kI := 7) fX6_51 (by first | assumption | exact S.at _ rfl) dX6_readTruth_16 rfl rfl ?_
      rw [h7]
      refine g_sipush (q := 22) dX6_readTruth_19 (by decide +kernel) rfl ?_
      refine g_icmp_ne (q := 25) (tg := 49) dX6_readTruth_22 (by decide) rfl (fun c_22 => ?_) (fun c_22 => ?_)
      · rw [w32_id (x := tkP K τ) (by omega) (by omega), show w32 141 = 141 from rfl] at c_22
        refine g_return dX6_readTruth_49 rfl ?_
        rw [← hPo]
        refine ⟨rfl, ?_, f2⟩
        rw [← e2, loopP_stop c_22]
        exact D2
      · rw [w32_id (x := tkP K τ) (by omega) (by omega), show w32 141 = 141 from rfl] at c_22
        have hop : isOr (tkP K τ) := by omega
        refine g_aload_n (q := 26) dX6_readTruth_25 rfl rfl ?_
        refine g_callV (q := 29) lX6_104 mX6_step nX6_step rfl (r_step 0 sh _ S D2) (by first | assumption | exact S.at _ rfl) rfl rfl shLe.rf (rmOk.mk (by omega) (by first | exact shLe.rf | assumption)) (Nat.le_of_ble_eq_true rfl) dX6_readTruth_26 rfl rfl (kN fun c3 hp => ?_)
        obtain ⟨D3, f3⟩ := hp
        refine g_aload_n (q := 30) dX6_readTruth_29 rfl rfl ?_
        refine g_iload_n (q := 31) dX6_readTruth_30 rfl rfl ?_
        refine g_callV (q := 34) lX6_178 mX6_readBoth nX6_readBoth rfl (hP _ _ D3 (stepP_gd g2).1 ((f2.tr f3).ofm ho)) (by first | assumption | exact S.at _ rfl) rfl rfl shLe.rf (rmOk.mk (by omega) (by first | exact shLe.rf | assumption)) (Nat.le_of_ble_eq_true rfl) dX6_readTruth_31 rfl rfl (kN fun c4 hp => ?_)
        obtain ⟨D4, f4⟩ := hp
        have L4 := D4.L
        have hin := D4.into
        have q4 := (hQ _ (stepP_gd g2).1).1
        have hrm := hQ.room hkd g2 (by omega) (by omega) (by omega)
        refine g_aload_n (q := 35) dX6_readTruth_34 rfl rfl ?_
        refine g_getO (q := 38) (kI := 9) fX6_26 (by first | assumption | exact S.at _ rfl) dX6_readTruth_35 rfl rfl hin ?_
        refine g_bipush (q := 40) dX6_readTruth_38 (by decide +kernel) rfl ?_
        refine g_callV (q := 43) lX6_181 mX0_addCode nX0_addCode rfl (r_code 0 sh _ S D4 (fun hw => (hrm hw).2) (op := -15) (by decide) (by decide)) sb rfl rfl shLe.rf (rmOk.mk (by omega) (by first | exact shLe.rf | assumption)) (Nat.le_of_ble_eq_true rfl) dX6_readTruth_40 rfl rfl (kN fun c5 hp => ?_)
        obtain ⟨D5, f5⟩ := hp
        refine s_iinc_3_2 (q := 46) dX6_readTruth_43 rfl rfl rfl ?_
        refine g_goto (q := 7) dX6_readTruth_46 (by decide) ?_
        refine kk (codeP (-15) (P (stepP T τ))) _ _ (by simp [lsSub]) ⟨by omega, D5, (codeP_gd q4 (fun hw => (hrm hw).1)).1, ((f2.tr f3).tr f4).tr f5, ?_⟩
        rw [← e2, show (T - i).toNat = (T - (i + 1)).toNat + 1 by omega, loopP_go hop]
  · rintro τ c ⟨i0, D2, g2, f2, e2⟩
    have hT := hkd.1
    have hto := D2.toks
    have L := D2.L
    refine g_iload_n (q := 8) dX6_readTruth_7 rfl rfl ?_
    refine g_aload_n (q := 9) dX6_readTruth_8 rfl rfl ?_
    refine g_getI (q := 12) (kI := 5) fX6_57 (by first | assumption | exact S.at _ rfl) dX6_readTruth_9 rfl rfl ?_
    rw [hto]
    refine g_icmp_ge (q := 15) (tg := 49) dX6_readTruth_12 (by decide) rfl (fun c_12 => ?_) (fun c_12 => ?_)
    · refine g_return dX6_readTruth_49 rfl ?_
      rw [← hPo]
      refine ⟨rfl, ?_, f2⟩
      rw [← e2, show (T - T).toNat = 0 by omega]
      exact D2
    · exact absurd c_12 (Int.lt_irrefl _)

theorem r_readSum {r nd : Nat} {P : PS → PS} (S : SH sh) (hr : r ≤ 6) (hQ : PQ T om False nd P) (hP : RC YX6_readTerm d sh b T K Pl om r P) : RC YX6_readSum (d + 1) sh b T K Pl om r (fun σ => loopP T K isPm cdPm P T.toNat (P σ)) := by
  intro ct σ D hg ho
  have hkd := D.kd
  have sb := (bkAt_b S D.L D.1.2.1).1
  generalize hPo : (pN fun c => RD c b T K Pl (loopP T K isPm cdPm P T.toNat (P σ)) ∧ rdF b ct c) = Po
  refine Mt.of rfl (Nat.le_of_ble_eq_true rfl) ?_
  show G _ 0 [some (.inr (.inr 64)), some (.inl (6 - (r : Int))), none, none] [] sh ct
  refine g_aload_n (q := 1) dX6_readSum_0 rfl rfl ?_
  refine g_iload_n (q := 2) dX6_readSum_1 rfl rfl ?_
  refine g_callV (q := 5) lX6_193 mX6_readTerm nX6_readTerm rfl (hP ct σ D hg ho) (by first | assumption | exact S.at _ rfl) rfl rfl shLe.rf (rmOk.mk (by omega) (by first | exact shLe.rf | assumption)) (Nat.le_of_ble_eq_true rfl) dX6_readSum_2 rfl rfl (kN fun c1 hp => ?_)
  obtain ⟨D1, f1⟩ := hp
  have g1 := (hQ σ hg).1
  refine g_iconst (q := 6) dX6_readSum_5 rfl ?_
  refine s_istore_n_4_2 (q := 7) dX6_readSum_6 rfl rfl rfl ?_
  refine g_forA (α := PS) (fun i a => [some (.inr (.inr 64)), some (.inl (6 - (r : Int))), some (.inl i), none]) (fun i τ c => 0 ≤ i ∧ RD c b T K Pl τ ∧ gd T τ ∧ rdF b ct c ∧ loopP T K isPm cdPm P (T - i).toNat τ = loopP T K isPm cdPm P T.toNat (P σ)) T ?_ ?_ (i := 0) (a := P σ) (by have := hkd.1; omega) ⟨Int.le_refl _, D1, g1, f1, by rw [show T - 0 = T by omega]⟩ (by simp [lsSub])
  · rintro i τ c hi ⟨i0, D2, g2, f2, e2⟩ kk
    have L := D2.L
    have htb := D2.tb
    have hT := hkd.1
    have hto := D2.toks
    have h7 := D2.2.2.1
    have hwt : w32 (tkP K τ) = tkP K τ := w32_id (by omega) (by omega)
    have body : isPm (tkP K τ) → G (mkK YX6_readSum (d + 1) sh sh Po) 33 [some (.inr (.inr 64)), some (.inl (6 - (r : Int))), some (.inl i), none] [] sh c := by
      intro hop
      have hop2 : tkP K τ = 43 ∨ tkP K τ = 45 := hop
      refine g_aload_n (q := 34) dX6_readSum_33 rfl rfl ?_
      refine g_getI (q := 37) (kI := 7) fX6_51 (by first | assumption | exact S.at _ rfl) dX6_readSum_34 rfl rfl ?_
      rw [h7]
      refine s_istore_n_4_3 (q := 38) dX6_readSum_37 rfl rfl rfl ?_
      refine g_aload_n (q := 39) dX6_readSum_38 rfl rfl ?_
      refine g_callV (q := 42) lX6_104 mX6_step nX6_step rfl (r_step 0 sh _ S D2) (by first | assumption | exact S.at _ rfl) rfl rfl shLe.rf (rmOk.mk (by omega) (by first | exact shLe.rf | assumption)) (Nat.le_of_ble_eq_true rfl) dX6_readSum_39 rfl rfl (kN fun c3 hp => ?_)
      obtain ⟨D3, f3⟩ := hp
      refine g_aload_n (q := 43) dX6_readSum_42 rfl rfl ?_
      refine g_iload_n (q := 44) dX6_readSum_43 rfl rfl ?_
      refine g_callV (q := 47) lX6_193 mX6_readTerm nX6_readTerm rfl (hP _ _ D3 (stepP_gd g2).1 ((f2.tr f3).ofm ho)) (by first | assumption | exact S.at _ rfl) rfl rfl shLe.rf (rmOk.mk (by omega) (by first | exact shLe.rf | assumption)) (Nat.le_of_ble_eq_true rfl) dX6_readSum_44 rfl rfl (kN fun c4 hp => ?_)
      obtain ⟨D4, f4⟩ := hp
      have L4 := D4.L
      have hin := D4.into
      have q4 := (hQ _ (stepP_gd g2).1).1
      have hrm := hQ.room hkd g2 (by omega) (by omega) (by omega)
      have fin : ∀ v, v = cdPm (tkP K τ) → (-32768 ≤ v ∧ v < 32768) → G (mkK YX6_readSum (d + 1) sh sh Po) 64 [some (.inr (.inr 64)), some (.inl (6 - (r : Int))), some (.inl i), some (.inl (tkP K τ))] [.inl v, .inr (.inr b)] sh c4 := by
        intro v hv hvb
        refine g_callV (q := 67) lX6_181 mX0_addCode nX0_addCode rfl (r_code 0 sh _ S D4 (fun hw => (hrm hw).2) (op := v) hvb.1 hvb.2) sb rfl rfl shLe.rf (rmOk.mk (by omega) (by first | exact shLe.rf | assumption)) (Nat.le_of_ble_eq_true rfl) dX6_readSum_64 rfl rfl (kN fun c5 hp => ?_)
        obtain ⟨D5, f5⟩ := hp
        refine s_iinc_4_2 (q := 70) dX6_readSum_67 rfl rfl rfl ?_
        refine g_goto (q := 7) dX6_readSum_70 (by decide) ?_
        rw [hv] at D5
        refine kk (codeP (cdPm (tkP K τ)) (P (stepP T τ))) _ _ (by simp [lsSub]) ⟨by omega, D5, (codeP_gd q4 (fun hw => (hrm hw).1)).1, ((f2.tr f3).tr f4).tr f5, ?_⟩
        rw [← e2, show (T - i).toNat = (T - (i + 1)).toNat + 1 by omega, loopP_go hop]
      refine g_aload_n (q := 48) dX6_readSum_47 rfl rfl ?_
      refine g_getO (q := 51) (kI := 9) fX6_26 (by first | assumption | exact S.at _ rfl) dX6_readSum_48 rfl rfl hin ?_
      refine g_iload_n (q := 52) dX6_readSum_51 rfl rfl ?_
      refine g_bipush (q := 54) dX6_readSum_52 (by decide +kernel) rfl ?_
      refine g_icmp_ne (q := 57) (tg := 62) dX6_readSum_54 (by decide) rfl (fun c_54 => ?_) (fun c_54 => ?_)
      · rw [hwt, show w32 43 = 43 from rfl] at c_54
        refine g_bipush (q := 64) dX6_readSum_62 (by decide +kernel) rfl ?_
        refine fin (-8) ?_ (by decide)
        unfold cdPm
        rw [if_neg c_54]
      · rw [hwt, show w32 43 = 43 from rfl] at c_54
        refine g_bipush (q := 59) dX6_readSum_57 (by decide +kernel) rfl ?_
        refine g_goto (q := 64) dX6_readSum_59 (by decide) ?_
        refine fin (-7) ?_ (by decide)
        unfold cdPm
        rw [if_pos (by omega)]
    refine g_iload_n (q := 8) dX6_readSum_7 rfl rfl ?_
    refine g_aload_n (q := 9) dX6_readSum_8 rfl rfl ?_
    refine g_getI (q := 12) (kI := 5) fX6_57 (by first | assumption | exact S.at _ rfl) dX6_readSum_9 rfl rfl ?_
    rw [hto]
    refine g_icmp_ge (q := 15) (tg := 73) dX6_readSum_12 (by decide) rfl (fun c_12 => ?_) (fun c_12 => ?_)
    · exact absurd c_12 (by rw [w32_id (x := i) (by omega) (by omega), w32_id (x := T) (by omega) (by omega)]; omega)
    · refine g_aload_n (q := 16) dX6_readSum_15 rfl rfl ?_
      refine g_getI (q := 19) (kI := 7) fX6_51 (by first | assumption | exact S.at _ rfl) dX6_readSum_16 rfl rfl ?_
      rw [h7]
      refine g_bipush (q := 21) dX6_readSum_19 (by decide +kernel) rfl ?_
      refine g_icmp_eq (q := 24) (tg := 33) dX6_readSum_21 (by decide) rfl (fun c_21 => ?_) (fun c_21 => ?_)
      · rw [hwt, show w32 43 = 43 from rfl] at c_21
        exact body (Or.inl c_21)
      · rw [hwt, show w32 43 = 43 from rfl] at c_21
        refine g_aload_n (q := 25) dX6_readSum_24 rfl rfl ?_
        refine g_getI (q := 28) (kI := 7) fX6_51 (by first | assumption | exact S.at _ rfl) dX6_readSum_25 rfl rfl ?_
        rw [h7]
        refine g_bipush (q := 30) dX6_readSum_28 (by decide +kernel) rfl ?_
        refine g_icmp_ne (q := 33) (tg := 73) dX6_readSum_30 (by decide) rfl (fun c_30 => ?_) (fun c_30 => ?_)
        · rw [hwt, show w32 45 = 45 from rfl] at c_30
          refine g_return dX6_readSum_73 rfl ?_
          rw [← hPo]
          refine ⟨rfl, ?_, f2⟩
          rw [← e2, loopP_stop (fun z => by rcases z with z | z <;> omega)]
          exact D2
        · rw [hwt, show w32 45 = 45 from rfl] at c_30
          exact body (Or.inr (by omega))
  · rintro τ c ⟨i0, D2, g2, f2, e2⟩
    have hT := hkd.1
    have hto := D2.toks
    have L := D2.L
    refine g_iload_n (q := 8) dX6_readSum_7 rfl rfl ?_
    refine g_aload_n (q := 9) dX6_readSum_8 rfl rfl ?_
    refine g_getI (q := 12) (kI := 5) fX6_57 (by first | assumption | exact S.at _ rfl) dX6_readSum_9 rfl rfl ?_
    rw [hto]
    refine g_icmp_ge (q := 15) (tg := 73) dX6_readSum_12 (by decide) rfl (fun c_12 => ?_) (fun c_12 => ?_)
    · refine g_return dX6_readSum_73 rfl ?_
      rw [← hPo]
      refine ⟨rfl, ?_, f2⟩
      rw [← e2, show (T - T).toNat = 0 by omega]
      exact D2
    · exact absurd c_12 (Int.lt_irrefl _)
theorem r_readAtom : ∀ {r : Nat} (S : SH sh) (hr : r ≤ 6) (hb : ∀ i, 0 ≤ i → i < T → K i < 2000), RC YX6_readAtom (d + 2 + 3 * r) sh b T K Pl om r (atomP T K Pl om r)
  | r, S, hr, hb => by
    intro ct σ D hg ho
    have hkd := D.kd
    have sb := (bkAt_b S D.L D.1.2.1).1
    have L := D.L
    have htb := D.tb
    have h7 := D.2.2.1
    have hwt : w32 (tkP K σ) = tkP K σ := w32_id (by omega) (by omega)
    generalize hPo : (pN fun c => RD c b T K Pl (atomP T K Pl om r σ) ∧ rdF b ct c) = Po
    refine Mt.of rfl (Nat.le_of_ble_eq_true rfl) ?_
    show G _ 0 [some (.inr (.inr 64)), some (.inl (6 - (r : Int))), none] [] sh ct
    refine g_aload_n (q := 1) dX6_readAtom_0 rfl rfl ?_
    refine g_getI (q := 4) (kI := 7) fX6_51 (by first | assumption | exact S.at _ rfl) dX6_readAtom_1 rfl rfl ?_
    rw [h7]
    refine g_bipush (q := 6) dX6_readAtom_4 (by decide +kernel) rfl ?_
    refine g_icmp_ne (q := 9) (tg := 31) dX6_readAtom_6 (by decide) rfl (fun c_6 => ?_) (fun c_6 => ?_)
    · rw [hwt, show w32 40 = 40 from rfl] at c_6
      have hA : ∃ par, atomP T K Pl om r σ = atB T K Pl om par σ := by
        cases r with
        | zero => exact ⟨_, rfl⟩
        | succ r => exact ⟨_, rfl⟩
      obtain ⟨par, hA⟩ := hA
      unfold atB at hA
      rw [if_neg c_6] at hA
      have fin : ∀ v, v = (if 1000 ≤ tkP K σ then tkP K σ - 1000 else askC om (tkP K σ)) → G (mkK YX6_readAtom (d + 2 + 3 * r) sh sh Po) 60 [some (.inr (.inr 64)), some (.inl (6 - (r : Int))), none] [.inl v] sh ct := by
        intro v hv
        have hvb : -100 ≤ v ∧ v < 3000 := by
          rw [hv]
          split
          · omega
          · rcases askC_in (om := om) (tkP K σ) with h | h
            · omega
            · omega
        have wv : w32 v = v := w32_id (by omega) (by omega)
        refine s_istore_n_3_2 (q := 61) dX6_readAtom_60 rfl rfl rfl ?_
        refine g_iload_n (q := 62) dX6_readAtom_61 rfl rfl ?_
        refine g_bipush (q := 64) dX6_readAtom_62 (by decide +kernel) rfl ?_
        refine g_icmp_ne (q := 67) (tg := 73) dX6_readAtom_64 (by decide) rfl (fun c_64 => ?_) (fun c_64 => ?_)
        · rw [wv, show w32 (-16) = -16 from rfl] at c_64
          have hE : atomP T K Pl om r σ = stepP T (codeP v σ) := by
            rw [hA, hv]
            split
            · rfl
            · rename_i h
              rw [if_neg h] at hv
              rw [if_neg (by rw [← hv]; exact c_64)]
          have h1 : tkP K σ ≠ 203 ∧ tkP K σ ≠ 201 ∧ tkP K σ ≠ 202 := by
            by_cases h : 1000 ≤ tkP K σ
            · omega
            · rw [if_neg h] at hv
              rcases askC_in (om := om) (tkP K σ) with h2 | h2
              · omega
              · omega
          obtain ⟨g1, g2, g3⟩ := step_go hkd hg h1.1 h1.2.1 h1.2.2
          have hlen := hg.2.2 g1
          have hin := D.into
          have hT := hkd.1
          refine g_aload_n (q := 74) dX6_readAtom_73 rfl rfl ?_
          refine g_getO (q := 77) (kI := 9) fX6_26 (by first | assumption | exact S.at _ rfl) dX6_readAtom_74 rfl rfl hin ?_
          refine g_iload_n (q := 78) dX6_readAtom_77 rfl rfl ?_
          refine g_callV (q := 81) lX6_181 mX0_addCode nX0_addCode rfl (r_code 0 sh _ S D (fun hw => by omega) (op := v) (by omega) (by omega)) sb rfl rfl shLe.rf (rmOk.mk (by omega) (by first | exact shLe.rf | assumption)) (Nat.le_of_ble_eq_true rfl) dX6_readAtom_78 rfl rfl (kN fun c1 hp => ?_)
          obtain ⟨D1, f1⟩ := hp
          refine g_aload_n (q := 82) dX6_readAtom_81 rfl rfl ?_
          refine g_callV (q := 85) lX6_104 mX6_step nX6_step rfl (r_step 0 sh _ S D1) (by first | assumption | exact S.at _ rfl) rfl rfl shLe.rf (rmOk.mk (by omega) (by first | exact shLe.rf | assumption)) (Nat.le_of_ble_eq_true rfl) dX6_readAtom_82 rfl rfl (kN fun c2 hp => ?_)
          obtain ⟨D2, f2⟩ := hp
          refine g_return dX6_readAtom_85 rfl ?_
          rw [← hPo, hE]
          exact ⟨rfl, D2, f1.tr f2⟩
        · rw [wv, show w32 (-16) = -16 from rfl] at c_64
          refine g_aload_n (q := 68) dX6_readAtom_67 rfl rfl ?_
          refine g_iconst (q := 69) dX6_readAtom_68 rfl ?_
          refine g_callV (q := 72) lX6_107 mX6_fail nX6_fail rfl (r_fail 0 sh _ S D (k := 2) (by decide)) (by first | assumption | exact S.at _ rfl) rfl rfl shLe.rf (rmOk.mk (by omega) (by first | exact shLe.rf | assumption)) (Nat.le_of_ble_eq_true rfl) dX6_readAtom_69 rfl rfl (kN fun c1 hp => ?_)
          refine g_return dX6_readAtom_72 rfl ?_
          have hv16 : v = -16 := by omega
          have h9 : ¬ 1000 ≤ tkP K σ := by
            intro h
            rw [if_pos h] at hv
            omega
          rw [if_neg h9] at hv hA
          rw [if_pos (by omega)] at hA
          rw [← hPo, hA]
          exact ⟨rfl, hp⟩
      refine g_aload_n (q := 32) dX6_readAtom_31 rfl rfl ?_
      refine g_getI (q := 35) (kI := 7) fX6_51 (by first | assumption | exact S.at _ rfl) dX6_readAtom_32 rfl rfl ?_
      rw [h7]
      refine g_sipush (q := 38) dX6_readAtom_35 (by decide +kernel) rfl ?_
      refine g_icmp_lt (q := 41) (tg := 52) dX6_readAtom_38 (by decide) rfl (fun c_38 => ?_) (fun c_38 => ?_)
      · rw [hwt, show w32 1000 = 1000 from rfl] at c_38
        refine g_aload_n (q := 53) dX6_readAtom_52 rfl rfl ?_
        refine g_aload_n (q := 54) dX6_readAtom_53 rfl rfl ?_
        refine g_getI (q := 57) (kI := 7) fX6_51 (by first | assumption | exact S.at _ rfl) dX6_readAtom_54 rfl rfl ?_
        rw [h7]
        refine g_callV (q := 60) lX6_199 mX6_askedBy nX6_askedBy rfl (r_askedBy 0 sh _ S D ho (by omega) (by omega)) (by first | assumption | exact S.at _ rfl) rfl rfl shLe.rf (rmOk.mk (by omega) (by first | exact shLe.rf | assumption)) (Nat.le_of_ble_eq_true rfl) dX6_readAtom_57 rfl rfl (kI fun r_ c_ hp => ?_)
        obtain ⟨hr, hq⟩ := hp
        replace hr := hr.symm
        replace hq := hq.symm
        subst hr hq
        exact fin _ (by rw [if_neg (by omega)])
      · rw [hwt, show w32 1000 = 1000 from rfl] at c_38
        refine g_aload_n (q := 42) dX6_readAtom_41 rfl rfl ?_
        refine g_getI (q := 45) (kI := 7) fX6_51 (by first | assumption | exact S.at _ rfl) dX6_readAtom_42 rfl rfl ?_
        rw [h7]
        refine g_sipush (q := 48) dX6_readAtom_45 (by decide +kernel) rfl ?_
        refine g_isub (q := 49) dX6_readAtom_48 rfl ?_
        refine g_goto (q := 60) dX6_readAtom_49 (by decide) ?_
        exact fin _ (by rw [if_pos (by omega)])
    · rw [hwt, show w32 40 = 40 from rfl] at c_6
      have c6 : tkP K σ = 40 := by omega
      refine g_aload_n (q := 10) dX6_readAtom_9 rfl rfl ?_
      refine g_iload_n (q := 11) dX6_readAtom_10 rfl rfl ?_
      refine g_callV (q := 14) lX6_187 mX6_goesWithin nX6_goesWithin rfl (r_goesWithin 0 sh _ S D hr) (by first | assumption | exact S.at _ rfl) rfl rfl shLe.rf (rmOk.mk (by omega) (by first | exact shLe.rf | assumption)) (Nat.le_of_ble_eq_true rfl) dX6_readAtom_11 rfl rfl (kI fun v c1 hp => ?_)
      obtain ⟨hp, f1⟩ := hp
      rcases hp with ⟨rfl, rfl, D1⟩ | ⟨rfl, hr1, D1⟩
      · refine g_if_eq (q := 17) (tg := 30) dX6_readAtom_14 (by decide) rfl (fun c_14 => ?_) (fun c_14 => ?_)
        · refine g_return dX6_readAtom_30 rfl ?_
          rw [← hPo]
          refine ⟨rfl, ?_, f1⟩
          show RD c1 b T K Pl (atB T K Pl om (failP K Pl 4) σ)
          unfold atB
          rw [if_pos c6]
          exact D1
        · exact absurd rfl c_14
      · obtain ⟨r', rfl⟩ : ∃ r', r = r' + 1 := ⟨r - 1, by omega⟩
        refine g_if_eq (q := 17) (tg := 30) dX6_readAtom_14 (by decide) rfl (fun c_14 => ?_) (fun c_14 => ?_)
        · exact absurd c_14 (by decide)
        · refine g_aload_n (q := 18) dX6_readAtom_17 rfl rfl ?_
          refine g_iload_n (q := 19) dX6_readAtom_18 rfl rfl ?_
          refine g_iconst (q := 20) dX6_readAtom_19 rfl ?_
          refine g_iadd (q := 21) dX6_readAtom_20 rfl ?_
          rw [show 6 - ((r' + 1 : Nat) : Int) + 1 = 6 - (r' : Int) by omega]
          refine g_callV (q := 24) lX6_190 mX6_readSum nX6_readSum rfl (r_readSum (d + 2 + 3 * r' + 1) sh S (r := r') (by omega) (termQ hkd (atomQ hkd hb r')) (r_readTerm (d + 2 + 3 * r') sh S (by omega) (atomQ hkd hb r') (r_readAtom S (by omega) hb)) _ _ D1 (stepP_gd hg).1 (f1.ofm ho)) (by first | assumption | exact S.at _ rfl) rfl rfl shLe.rf (rmOk.mk (by omega) (by first | exact shLe.rf | assumption)) (Nat.le_of_ble_eq_true rfl) dX6_readAtom_21 rfl rfl (kN fun c2 hp => ?_)
          obtain ⟨D2, f2⟩ := hp
          refine g_aload_n (q := 25) dX6_readAtom_24 rfl rfl ?_
          refine g_bipush (q := 27) dX6_readAtom_25 (by decide +kernel) rfl ?_
          refine g_callV (q := 30) lX6_110 mX6_take nX6_take rfl (r_take 0 sh _ S D2 (x := 41) (by decide)) (by first | assumption | exact S.at _ rfl) rfl rfl shLe.rf (rmOk.mk (by omega) (by first | exact shLe.rf | assumption)) (Nat.le_of_ble_eq_true rfl) dX6_readAtom_27 rfl rfl (kN fun c3 hp => ?_)
          obtain ⟨D3, f3⟩ := hp
          refine g_return dX6_readAtom_30 rfl ?_
          rw [← hPo]
          refine ⟨rfl, ?_, (f1.tr f2).tr f3⟩
          show RD c3 b T K Pl (atB T K Pl om (fun σ => takeP T K Pl 41 (sumP T K (atomP T K Pl om r') (stepP T σ))) σ)
          unfold atB
          rw [if_pos c6]
          exact D3
theorem r_sum {r : Nat} (S : SH sh) (hr : r ≤ 6) (hk : kd T K) (hb : ∀ i, 0 ≤ i → i < T → K i < 2000) : RC YX6_readSum (d + 4 + 3 * r) sh b T K Pl om r (sumP T K (atomP T K Pl om r)) := by
  have h := r_readSum (d + 2 + 3 * r + 1) sh S hr (termQ hk (atomQ hk hb r)) (r_readTerm (d + 2 + 3 * r) sh S hr (atomQ hk hb r) (r_readAtom (b := b) (Pl := Pl) (om := om) d sh S hr hb))
  rw [show d + 2 + 3 * r + 1 + 1 = d + 4 + 3 * r by omega] at h
  exact h
theorem r_readUnit : ∀ {r : Nat} (S : SH sh) (hr : r ≤ 6) (hb : ∀ i, 0 ≤ i → i < T → K i < 2000), RC YX6_readUnit (d + 5 + 3 * r) sh b T K Pl om r (unitP T K Pl om r)
  | r, S, hr, hb => by
    intro ct σ D hg ho
    have hkd := D.kd
    have sb := (bkAt_b S D.L D.1.2.1).1
    have L := D.L
    have htb := D.tb
    have h7 := D.2.2.1
    have hwt : w32 (tkP K σ) = tkP K σ := w32_id (by omega) (by omega)
    have hU : ∃ neg brk, unitP T K Pl om r σ = unB T K Pl neg brk (sumP T K (atomP T K Pl om r)) σ ∧ (r = 0 → neg σ = failP K Pl 4 σ ∧ brk σ = failP K Pl 4 σ) ∧ (∀ r', r = r' + 1 → neg σ = codeP (-13) (unitP T K Pl om r' (stepP T σ)) ∧ brk σ = takeP T K Pl 93 (truthP T K (unitP T K Pl om r') (stepP T σ))) := by
      cases r with
      | zero => exact ⟨_, _, rfl, fun _ => ⟨rfl, rfl⟩, fun r' h => by omega⟩
      | succ r => exact ⟨_, _, rfl, fun h => by omega, fun r' h => by
          have : r = r' := by omega
          subst this
          exact ⟨rfl, rfl⟩⟩
    obtain ⟨neg, brk, hU, hU0, hU1⟩ := hU
    unfold unB at hU
    generalize hPo : (pN fun c => RD c b T K Pl (unitP T K Pl om r σ) ∧ rdF b ct c) = Po
    refine Mt.of rfl (Nat.le_of_ble_eq_true rfl) ?_
    show G _ 0 [some (.inr (.inr 64)), some (.inl (6 - (r : Int))), none] [] sh ct
    refine g_aload_n (q := 1) dX6_readUnit_0 rfl rfl ?_
    refine g_getI (q := 4) (kI := 7) fX6_51 (by first | assumption | exact S.at _ rfl) dX6_readUnit_1 rfl rfl ?_
    rw [h7]
    refine g_sipush (q := 7) dX6_readUnit_4 (by decide +kernel) rfl ?_
    refine g_icmp_ne (q := 10) (tg := 37) dX6_readUnit_7 (by decide) rfl (fun c_7 => ?_) (fun c_7 => ?_)
    · rw [hwt, show w32 143 = 143 from rfl] at c_7
      rw [if_neg c_7] at hU
      refine g_aload_n (q := 38) dX6_readUnit_37 rfl rfl ?_
      refine g_getI (q := 41) (kI := 7) fX6_51 (by first | assumption | exact S.at _ rfl) dX6_readUnit_38 rfl rfl ?_
      rw [h7]
      refine g_bipush (q := 43) dX6_readUnit_41 (by decide +kernel) rfl ?_
      refine g_icmp_ne (q := 46) (tg := 70) dX6_readUnit_43 (by decide) rfl (fun c_43 => ?_) (fun c_43 => ?_)
      · rw [hwt, show w32 91 = 91 from rfl] at c_43
        rw [if_neg c_43] at hU
        have hS := r_sum (b := b) (Pl := Pl) (om := om) d sh S hr hkd hb
        have hQ := sumQ hkd (atomQ (Pl := Pl) (om := om) hkd hb r)
        refine g_aload_n (q := 71) dX6_readUnit_70 rfl rfl ?_
        refine g_iload_n (q := 72) dX6_readUnit_71 rfl rfl ?_
        refine g_callV (q := 75) lX6_190 mX6_readSum nX6_readSum rfl (hS _ _ D hg ho) (by first | assumption | exact S.at _ rfl) rfl rfl shLe.rf (rmOk.mk (by omega) (by first | exact shLe.rf | assumption)) (Nat.le_of_ble_eq_true rfl) dX6_readUnit_72 rfl rfl (kN fun c1 hp => ?_)
        obtain ⟨D1, f1⟩ := hp
        have g1 := (hQ σ hg).1
        unfold cmpP at hU
        generalize sumP T K (atomP T K Pl om r) σ = τ at D1 g1 hU
        have L1 := D1.L
        have ht1 := D1.tb
        have h71 := D1.2.2.1
        have hwt1 : w32 (tkP K τ) = tkP K τ := w32_id (by omega) (by omega)
        have body : isCm (tkP K τ) → G (mkK YX6_readUnit (d + 5 + 3 * r) sh sh Po) 98 [some (.inr (.inr 64)), some (.inl (6 - (r : Int))), some (.inl (tkP K τ))] [] sh c1 := by
          intro hc
          have hc2 : tkP K τ = 61 ∨ tkP K τ = 60 ∨ tkP K τ = 62 := hc
          rw [if_pos hc] at hU
          refine g_aload_n (q := 99) dX6_readUnit_98 rfl rfl ?_
          refine g_callV (q := 102) lX6_104 mX6_step nX6_step rfl (r_step 0 sh _ S D1) (by first | assumption | exact S.at _ rfl) rfl rfl shLe.rf (rmOk.mk (by omega) (by first | exact shLe.rf | assumption)) (Nat.le_of_ble_eq_true rfl) dX6_readUnit_99 rfl rfl (kN fun c3 hp => ?_)
          obtain ⟨D3, f3⟩ := hp
          refine g_aload_n (q := 103) dX6_readUnit_102 rfl rfl ?_
          refine g_iload_n (q := 104) dX6_readUnit_103 rfl rfl ?_
          refine g_callV (q := 107) lX6_190 mX6_readSum nX6_readSum rfl (hS _ _ D3 (stepP_gd g1).1 ((f1.tr f3).ofm ho)) (by first | assumption | exact S.at _ rfl) rfl rfl shLe.rf (rmOk.mk (by omega) (by first | exact shLe.rf | assumption)) (Nat.le_of_ble_eq_true rfl) dX6_readUnit_104 rfl rfl (kN fun c4 hp => ?_)
          obtain ⟨D4, f4⟩ := hp
          have L4 := D4.L
          have hin := D4.into
          have hrm := hQ.room hkd g1 (by omega) (by omega) (by omega)
          have fin : ∀ v, v = cdCm (tkP K τ) → (-32768 ≤ v ∧ v < 32768) → G (mkK YX6_readUnit (d + 5 + 3 * r) sh sh Po) 135 [some (.inr (.inr 64)), some (.inl (6 - (r : Int))), some (.inl (tkP K τ))] [.inl v, .inr (.inr b)] sh c4 := by
            intro v hv hvb
            refine g_callV (q := 138) lX6_181 mX0_addCode nX0_addCode rfl (r_code 0 sh _ S D4 (fun hw => (hrm hw).2) (op := v) hvb.1 hvb.2) sb rfl rfl shLe.rf (rmOk.mk (by omega) (by first | exact shLe.rf | assumption)) (Nat.le_of_ble_eq_true rfl) dX6_readUnit_135 rfl rfl (kN fun c5 hp => ?_)
            obtain ⟨D5, f5⟩ := hp
            refine g_goto (q := 146) dX6_readUnit_138 (by decide) ?_
            refine g_return dX6_readUnit_146 rfl ?_
            rw [hv] at D5
            rw [← hPo, hU]
            exact ⟨rfl, D5, ((f1.tr f3).tr f4).tr f5⟩
          refine g_aload_n (q := 108) dX6_readUnit_107 rfl rfl ?_
          refine g_getO (q := 111) (kI := 9) fX6_26 (by first | assumption | exact S.at _ rfl) dX6_readUnit_108 rfl rfl hin ?_
          refine g_iload_n (q := 112) dX6_readUnit_111 rfl rfl ?_
          refine g_bipush (q := 114) dX6_readUnit_112 (by decide +kernel) rfl ?_
          refine g_icmp_ne (q := 117) (tg := 122) dX6_readUnit_114 (by decide) rfl (fun c_114 => ?_) (fun c_114 => ?_)
          · rw [hwt1, show w32 61 = 61 from rfl] at c_114
            refine g_iload_n (q := 123) dX6_readUnit_122 rfl rfl ?_
            refine g_bipush (q := 125) dX6_readUnit_123 (by decide +kernel) rfl ?_
            refine g_icmp_ne (q := 128) (tg := 133) dX6_readUnit_125 (by decide) rfl (fun c_125 => ?_) (fun c_125 => ?_)
            · rw [hwt1, show w32 60 = 60 from rfl] at c_125
              refine g_bipush (q := 135) dX6_readUnit_133 (by decide +kernel) rfl ?_
              refine fin (-12) ?_ (by decide)
              unfold cdCm
              rw [if_neg c_114, if_neg c_125]
            · rw [hwt1, show w32 60 = 60 from rfl] at c_125
              refine g_bipush (q := 130) dX6_readUnit_128 (by decide +kernel) rfl ?_
              refine g_goto (q := 135) dX6_readUnit_130 (by decide) ?_
              refine fin (-11) ?_ (by decide)
              unfold cdCm
              rw [if_neg c_114, if_pos (by omega)]
          · rw [hwt1, show w32 61 = 61 from rfl] at c_114
            refine g_bipush (q := 119) dX6_readUnit_117 (by decide +kernel) rfl ?_
            refine g_goto (q := 135) dX6_readUnit_119 (by decide) ?_
            refine fin (-10) ?_ (by decide)
            unfold cdCm
            rw [if_pos (by omega)]
        refine g_aload_n (q := 76) dX6_readUnit_75 rfl rfl ?_
        refine g_getI (q := 79) (kI := 7) fX6_51 (by first | assumption | exact S.at _ rfl) dX6_readUnit_76 rfl rfl ?_
        rw [h71]
        refine s_istore_n_3_2 (q := 80) dX6_readUnit_79 rfl rfl rfl ?_
        refine g_iload_n (q := 81) dX6_readUnit_80 rfl rfl ?_
        refine g_bipush (q := 83) dX6_readUnit_81 (by decide +kernel) rfl ?_
        refine g_icmp_eq (q := 86) (tg := 98) dX6_readUnit_83 (by decide) rfl (fun c_83 => ?_) (fun c_83 => ?_)
        · rw [hwt1, show w32 61 = 61 from rfl] at c_83
          exact body (Or.inl c_83)
        · rw [hwt1, show w32 61 = 61 from rfl] at c_83
          refine g_iload_n (q := 87) dX6_readUnit_86 rfl rfl ?_
          refine g_bipush (q := 89) dX6_readUnit_87 (by decide +kernel) rfl ?_
          refine g_icmp_eq (q := 92) (tg := 98) dX6_readUnit_89 (by decide) rfl (fun c_89 => ?_) (fun c_89 => ?_)
          · rw [hwt1, show w32 60 = 60 from rfl] at c_89
            exact body (Or.inr (Or.inl c_89))
          · rw [hwt1, show w32 60 = 60 from rfl] at c_89
            refine g_iload_n (q := 93) dX6_readUnit_92 rfl rfl ?_
            refine g_bipush (q := 95) dX6_readUnit_93 (by decide +kernel) rfl ?_
            refine g_icmp_ne (q := 98) (tg := 141) dX6_readUnit_95 (by decide) rfl (fun c_95 => ?_) (fun c_95 => ?_)
            · rw [hwt1, show w32 62 = 62 from rfl] at c_95
              rw [if_neg (fun z => by rcases z with z | z | z <;> omega)] at hU
              refine g_aload_n (q := 142) dX6_readUnit_141 rfl rfl ?_
              refine g_iconst (q := 143) dX6_readUnit_142 rfl ?_
              refine g_callV (q := 146) lX6_107 mX6_fail nX6_fail rfl (r_fail 0 sh _ S D1 (k := 2) (by decide)) (by first | assumption | exact S.at _ rfl) rfl rfl shLe.rf (rmOk.mk (by omega) (by first | exact shLe.rf | assumption)) (Nat.le_of_ble_eq_true rfl) dX6_readUnit_143 rfl rfl (kN fun c3 hp => ?_)
              obtain ⟨D3, f3⟩ := hp
              refine g_return dX6_readUnit_146 rfl ?_
              rw [← hPo, hU]
              exact ⟨rfl, D3, f1.tr f3⟩
            · rw [hwt1, show w32 62 = 62 from rfl] at c_95
              exact body (Or.inr (Or.inr (by omega)))
      · rw [hwt, show w32 91 = 91 from rfl] at c_43
        rw [if_pos (by omega)] at hU
        refine g_aload_n (q := 47) dX6_readUnit_46 rfl rfl ?_
        refine g_iload_n (q := 48) dX6_readUnit_47 rfl rfl ?_
        refine g_callV (q := 51) lX6_187 mX6_goesWithin nX6_goesWithin rfl (r_goesWithin 0 sh _ S D hr) (by first | assumption | exact S.at _ rfl) rfl rfl shLe.rf (rmOk.mk (by omega) (by first | exact shLe.rf | assumption)) (Nat.le_of_ble_eq_true rfl) dX6_readUnit_48 rfl rfl (kI fun v c1 hp => ?_)
        obtain ⟨hp, f1⟩ := hp
        rcases hp with ⟨rfl, hr0, D1⟩ | ⟨rfl, hr1, D1⟩
        · rw [(hU0 hr0).2] at hU
          refine g_if_eq (q := 54) (tg := 146) dX6_readUnit_51 (by decide) rfl (fun c_51 => ?_) (fun c_51 => ?_)
          · refine g_return dX6_readUnit_146 rfl ?_
            rw [← hPo, hU]
            exact ⟨rfl, D1, f1⟩
          · exact absurd rfl c_51
        · obtain ⟨r', rfl⟩ : ∃ r', r = r' + 1 := ⟨r - 1, by omega⟩
          rw [(hU1 r' rfl).2] at hU
          refine g_if_eq (q := 54) (tg := 146) dX6_readUnit_51 (by decide) rfl (fun c_51 => ?_) (fun c_51 => ?_)
          · exact absurd c_51 (by decide)
          · refine g_aload_n (q := 55) dX6_readUnit_54 rfl rfl ?_
            refine g_iload_n (q := 56) dX6_readUnit_55 rfl rfl ?_
            refine g_iconst (q := 57) dX6_readUnit_56 rfl ?_
            refine g_iadd (q := 58) dX6_readUnit_57 rfl ?_
            rw [show 6 - ((r' + 1 : Nat) : Int) + 1 = 6 - (r' : Int) by omega]
            refine g_callV (q := 61) lX6_175 mX6_readTruth nX6_readTruth rfl (r_readTruth (d + 5 + 3 * r' + 1) sh S (r := r') (by omega) (bothQ hkd (unitQ hkd hb r')) (r_readBoth (d + 5 + 3 * r') sh S (by omega) (unitQ hkd hb r') (r_readUnit S (by omega) hb)) _ _ D1 (stepP_gd hg).1 (f1.ofm ho)) (by first | assumption | exact S.at _ rfl) rfl rfl shLe.rf (rmOk.mk (by omega) (by first | exact shLe.rf | assumption)) (Nat.le_of_ble_eq_true rfl) dX6_readUnit_58 rfl rfl (kN fun c2 hp => ?_)
            obtain ⟨D2, f2⟩ := hp
            refine g_aload_n (q := 62) dX6_readUnit_61 rfl rfl ?_
            refine g_bipush (q := 64) dX6_readUnit_62 (by decide +kernel) rfl ?_
            refine g_callV (q := 67) lX6_110 mX6_take nX6_take rfl (r_take 0 sh _ S D2 (x := 93) (by decide)) (by first | assumption | exact S.at _ rfl) rfl rfl shLe.rf (rmOk.mk (by omega) (by first | exact shLe.rf | assumption)) (Nat.le_of_ble_eq_true rfl) dX6_readUnit_64 rfl rfl (kN fun c3 hp => ?_)
            obtain ⟨D3, f3⟩ := hp
            refine g_goto (q := 146) dX6_readUnit_67 (by decide) ?_
            refine g_return dX6_readUnit_146 rfl ?_
            rw [← hPo, hU]
            exact ⟨rfl, D3, (f1.tr f2).tr f3⟩
    · rw [hwt, show w32 143 = 143 from rfl] at c_7
      rw [if_pos (by omega)] at hU
      refine g_aload_n (q := 11) dX6_readUnit_10 rfl rfl ?_
      refine g_iload_n (q := 12) dX6_readUnit_11 rfl rfl ?_
      refine g_callV (q := 15) lX6_187 mX6_goesWithin nX6_goesWithin rfl (r_goesWithin 0 sh _ S D hr) (by first | assumption | exact S.at _ rfl) rfl rfl shLe.rf (rmOk.mk (by omega) (by first | exact shLe.rf | assumption)) (Nat.le_of_ble_eq_true rfl) dX6_readUnit_12 rfl rfl (kI fun v c1 hp => ?_)
      obtain ⟨hp, f1⟩ := hp
      rcases hp with ⟨rfl, hr0, D1⟩ | ⟨rfl, hr1, D1⟩
      · rw [(hU0 hr0).1] at hU
        refine g_if_eq (q := 18) (tg := 146) dX6_readUnit_15 (by decide) rfl (fun c_15 => ?_) (fun c_15 => ?_)
        · refine g_return dX6_readUnit_146 rfl ?_
          rw [← hPo, hU]
          exact ⟨rfl, D1, f1⟩
        · exact absurd rfl c_15
      · obtain ⟨r', rfl⟩ : ∃ r', r = r' + 1 := ⟨r - 1, by omega⟩
        rw [(hU1 r' rfl).1] at hU
        have hQ := unitQ (Pl := Pl) (om := om) hkd hb r'
        have hrm := hQ.room hkd hg (by omega) (by omega) (by omega)
        refine g_if_eq (q := 18) (tg := 146) dX6_readUnit_15 (by decide) rfl (fun c_15 => ?_) (fun c_15 => ?_)
        · exact absurd c_15 (by decide)
        · refine g_aload_n (q := 19) dX6_readUnit_18 rfl rfl ?_
          refine g_iload_n (q := 20) dX6_readUnit_19 rfl rfl ?_
          refine g_iconst (q := 21) dX6_readUnit_20 rfl ?_
          refine g_iadd (q := 22) dX6_readUnit_21 rfl ?_
          rw [show 6 - ((r' + 1 : Nat) : Int) + 1 = 6 - (r' : Int) by omega]
          refine g_callV (q := 25) lX6_184 mX6_readUnit nX6_readUnit rfl (r_readUnit S (r := r') (by omega) hb _ _ D1 (stepP_gd hg).1 (f1.ofm ho)) (by first | assumption | exact S.at _ rfl) rfl rfl shLe.rf (rmOk.mk (by omega) (by first | exact shLe.rf | assumption)) (Nat.le_of_ble_eq_true rfl) dX6_readUnit_22 rfl rfl (kN fun c2 hp => ?_)
          obtain ⟨D2, f2⟩ := hp
          have L2 := D2.L
          have hin := D2.into
          refine g_aload_n (q := 26) dX6_readUnit_25 rfl rfl ?_
          refine g_getO (q := 29) (kI := 9) fX6_26 (by first | assumption | exact S.at _ rfl) dX6_readUnit_26 rfl rfl hin ?_
          refine g_bipush (q := 31) dX6_readUnit_29 (by decide +kernel) rfl ?_
          refine g_callV (q := 34) lX6_181 mX0_addCode nX0_addCode rfl (r_code 0 sh _ S D2 (fun hw => (hrm hw).2) (op := -13) (by decide) (by decide)) sb rfl rfl shLe.rf (rmOk.mk (by omega) (by first | exact shLe.rf | assumption)) (Nat.le_of_ble_eq_true rfl) dX6_readUnit_31 rfl rfl (kN fun c3 hp => ?_)
          obtain ⟨D3, f3⟩ := hp
          refine g_goto (q := 146) dX6_readUnit_34 (by decide) ?_
          refine g_return dX6_readUnit_146 rfl ?_
          rw [← hPo, hU]
          exact ⟨rfl, D3, (f1.tr f2).tr f3⟩
theorem r_truth {r : Nat} (S : SH sh) (hr : r ≤ 6) (hk : kd T K) (hb : ∀ i, 0 ≤ i → i < T → K i < 2000) : RC YX6_readTruth (d + 7 + 3 * r) sh b T K Pl om r (truthP T K (unitP T K Pl om r)) := by
  have h := r_readTruth (d + 5 + 3 * r + 1) sh S hr (bothQ hk (unitQ hk hb r)) (r_readBoth (d + 5 + 3 * r) sh S hr (unitQ hk hb r) (r_readUnit (b := b) (Pl := Pl) (om := om) d sh S hr hb))
  rw [show d + 5 + 3 * r + 1 + 1 = d + 7 + 3 * r by omega] at h
  exact h
end
