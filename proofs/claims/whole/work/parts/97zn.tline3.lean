/-! the reference reads a law, any line -/
section
variable (d : Nat) (sh : mbSh) (ct : mbCt) {f K Pl E : Int → Int} {n T : Int} {a : PS × BS}
theorem rdg_in (om : Bool) : (om = true ∧ rdg om = 0) ∨ (om = false ∧ rdg om = 1) := by cases om <;> decide
theorem law_ne {om : Bool} {σ : PS} (hk : kd T K) (hb : ∀ i, 0 ≤ i → i < T → K i < 2000) (h : gd T σ) (hw : (lawP T K Pl om σ).2.1 = 0) : lenP σ ≠ lenP (lawP T K Pl om σ) ∧ lenP σ ≤ lenP (lawP T K Pl om σ) := by
  obtain ⟨-, -, -, q4⟩ := lawQ (Pl := Pl) (om := om) hk hb h
  obtain ⟨w0, l, e1, e2, e3, e4⟩ := q4 hw
  have hl := e4 [] (by decide)
  unfold lenP
  rw [e1, List.length_append]
  cases l with
  | nil => cases hl
  | cons x r => rw [List.length_cons]; omega
theorem tw_readLaw {om : Bool} {law : Int} (S : SH sh) (B : MB ct f n T K Pl E a) (hI : bkRi T a) (hl : law = rdg om) (ht : tkP K a.1 = (if om = true then 138 else 139)) : Mt YX12_readLaw (d + 31) [.inr (.inr 92), .inl law] sh sh ct (pN fun c => MB c f n T K Pl E (lineB T K Pl a) ∧ mlF ct c) := by
  obtain ⟨M, hF⟩ := B
  have hg := hI.1
  have hkd := M.kd.1
  have hb := M.kd.2
  have htk : tkP K a.1 = 138 ∨ tkP K a.1 = 139 := by
    rw [ht]
    split
    · exact Or.inl rfl
    · exact Or.inr rfl
  have hlb : law = 0 ∨ law = 1 := by
    rcases rdg_in om with ⟨-, h⟩ | ⟨-, h⟩ <;> omega
  have hw := tk_w (K := K) (σ := a.1) (by omega)
  have F := hF hw
  have s96 : shA sh 96 = some (20, 1040) := S.at _ rfl
  have hE1 : (lineB T K Pl a).1 = lawP T K Pl om a.1 := by
    unfold lineB
    cases om with
    | true =>
      have h : tkP K a.1 = 138 := ht
      rw [if_neg (by omega), if_neg (by omega), if_pos h]
    | false =>
      have h : tkP K a.1 = 139 := ht
      rw [if_neg (by omega), if_neg (by omega), if_neg (by omega), if_pos h]
  have hE2 : ∀ c, frB c a.2 → lenP a.1 ≠ lenP (lawP T K Pl om a.1) → frB (wr (wr (wr c 96 (6 + law) 1) 96 (8 + law) (lenP a.1)) 96 (10 + law) (lenP (lawP T K Pl om a.1) - lenP a.1)) (lineB T K Pl a).2 := by
    intro c h hne
    subst hl
    unfold lineB
    cases om with
    | true =>
      have h2 : tkP K a.1 = 138 := ht
      rw [if_neg (by omega), if_neg (by omega), if_pos h2]
      exact frB.law0 (nn := a.2.1) (ρ := a.2.2) h hne
    | false =>
      have h2 : tkP K a.1 = 139 := ht
      rw [if_neg (by omega), if_neg (by omega), if_neg (by omega), if_pos h2]
      exact frB.law1 (nn := a.2.1) (ρ := a.2.2) h hne
  have n1 := stepNC hg
  have n2 := n1.tr (takeNC (K := K) (Pl := Pl) (x := 58) n1.1)
  generalize hPo : (pN fun c => MB c f n T K Pl E (lineB T K Pl a) ∧ mlF ct c) = Po
  have tail : ∀ c, MR c f n T K Pl E (takeP T K Pl 58 (stepP T a.1)) → mrF ct c → G (mkK YX12_readLaw (d + 31) sh sh Po) 18 [some (.inr (.inr 92)), some (.inl law), none] [] sh c := by
    intro c M2 f2
    have L2 := M2.1
    have hu : (takeP T K Pl 58 (stepP T a.1)).2.1 = 0 → c 96 139 = lenP a.1 := by
      intro z
      rw [(M2.2.2.2.2.2 z).1]
      unfold lenP
      rw [n2.2.2.2 z]
    refine g_aload_n (q := 19) dX12_readLaw_18 rfl rfl ?_
    refine g_getA (q := 22) (kI := 4) fX12_24 (by first | assumption | exact S.at _ rfl) dX12_readLaw_19 rfl rfl (by first | assumption | exact L.at _ _ rfl | exact LK.at (by assumption) _ _ rfl | ((repeat first | rewrite [wr_na (by decide)] | rewrite [wr_nk (by decide)] | rewrite [wa_na (by decide)]); first | assumption | exact LK.at (by assumption) _ _ rfl) | exact rfl) ?_
    refine g_sipush (q := 25) dX12_readLaw_22 (by decide +kernel) rfl ?_
    refine g_iaload (q := 26) (by first | assumption | exact S.at _ rfl) (by omega) (by omega) (by omega) dX12_readLaw_25 rfl ?_
    generalize c 96 139 = u at hu
    have M3 := M2.w15 (v := law)
    refine s_istore_n_3_2 (q := 27) dX12_readLaw_26 rfl rfl rfl ?_
    refine g_aload_n (q := 28) dX12_readLaw_27 rfl rfl ?_
    refine g_iload_n (q := 29) dX12_readLaw_28 rfl rfl ?_
    refine g_putI (q := 32) (kI := 15) fX12_154 (by first | assumption | exact S.at _ rfl) dX12_readLaw_29 rfl rfl ?_
    refine g_aload_n (q := 33) dX12_readLaw_32 rfl rfl ?_
    refine g_iconst (q := 34) dX12_readLaw_33 rfl ?_
    refine g_callV (q := 37) lX12_181 mX12_readTruth nX12_readTruth rfl (tw_truth d sh (r := 6) (om := om) S (by decide) hkd hb _ _ M3 n2.1 (by rw [wr_eq]; exact hl)) (by first | assumption | exact S.at _ rfl) rfl rfl shLe.rf (rmOk.mk (by omega) (by first | exact shLe.rf | assumption)) (Nat.le_of_ble_eq_true rfl) dX12_readLaw_34 rfl rfl (kN fun c4 hp => ?_)
    have M4 : MR c4 f n T K Pl E (lawP T K Pl om a.1) := hp.1
    have f4 : mlF ct c4 := (f2.ml.tr mlF.w15).tr hp.2.ml
    have e4 : ∀ j, 0 ≤ j → j < 139 → c4 96 j = ct 96 j := fun j _ j1 => by rw [hp.2.2.1 j j1, wr_na (by decide), f2.2.1 j j1]
    have L4 := M4.1
    refine g_aload_n (q := 38) dX12_readLaw_37 rfl rfl ?_
    refine g_getI (q := 41) (kI := 11) fX12_134 (by first | assumption | exact S.at _ rfl) dX12_readLaw_38 rfl rfl ?_
    rw [M4.w]
    refine g_if_eq (q := 44) (tg := 45) dX12_readLaw_41 (by decide) rfl (fun c_41 => ?_) (fun c_41 => ?_)
    · have hw4 := M4.wz.mp c_41
      have hne := law_ne (Pl := Pl) (om := om) hkd hb hg hw4
      have hw2 : (takeP T K Pl 58 (stepP T a.1)).2.1 = 0 := by
        obtain ⟨-, -, -, q4⟩ := (truthQ hkd (unitQ (Pl := Pl) (om := om) hkd hb 6)) _ n2.1
        exact (q4 hw4).1
      have hu2 := hu hw2
      have h139 : c4 96 139 = lenP (lawP T K Pl om a.1) := (M4.2.2.2.2.2 hw4).1
      refine g_aload_n (q := 46) dX12_readLaw_45 rfl rfl ?_
      refine g_getA (q := 49) (kI := 4) fX12_24 (by first | assumption | exact S.at _ rfl) dX12_readLaw_46 rfl rfl (by first | assumption | exact L.at _ _ rfl | exact LK.at (by assumption) _ _ rfl | ((repeat first | rewrite [wr_na (by decide)] | rewrite [wr_nk (by decide)] | rewrite [wa_na (by decide)]); first | assumption | exact LK.at (by assumption) _ _ rfl) | exact rfl) ?_
      refine g_bipush (q := 51) dX12_readLaw_49 (by decide +kernel) rfl ?_
      refine g_iload_n (q := 52) dX12_readLaw_51 rfl rfl ?_
      refine g_iadd (q := 53) dX12_readLaw_52 rfl ?_
      refine g_iconst (q := 54) dX12_readLaw_53 rfl ?_
      refine g_iastore (q := 55) (by first | assumption | exact S.at _ rfl) (by omega) (by omega) (by omega) dX12_readLaw_54 rfl ?_
      refine g_aload_n (q := 56) dX12_readLaw_55 rfl rfl ?_
      refine g_getA (q := 59) (kI := 4) fX12_24 (by first | assumption | exact S.at _ rfl) dX12_readLaw_56 rfl rfl (by first | assumption | exact L.at _ _ rfl | exact LK.at (by assumption) _ _ rfl | ((repeat first | rewrite [wr_na (by decide)] | rewrite [wr_nk (by decide)] | rewrite [wa_na (by decide)]); first | assumption | exact LK.at (by assumption) _ _ rfl) | exact rfl) ?_
      refine g_bipush (q := 61) dX12_readLaw_59 (by decide +kernel) rfl ?_
      refine g_iload_n (q := 62) dX12_readLaw_61 rfl rfl ?_
      refine g_iadd (q := 63) dX12_readLaw_62 rfl ?_
      refine g_iload_n (q := 64) dX12_readLaw_63 rfl rfl ?_
      refine g_iastore (q := 65) (by first | assumption | exact S.at _ rfl) (by omega) (by omega) (by omega) dX12_readLaw_64 rfl ?_
      refine g_aload_n (q := 66) dX12_readLaw_65 rfl rfl ?_
      refine g_getA (q := 69) (kI := 4) fX12_24 (by first | assumption | exact S.at _ rfl) dX12_readLaw_66 rfl rfl (by first | assumption | exact L.at _ _ rfl | exact LK.at (by assumption) _ _ rfl | ((repeat first | rewrite [wr_na (by decide)] | rewrite [wr_nk (by decide)] | rewrite [wa_na (by decide)]); first | assumption | exact LK.at (by assumption) _ _ rfl) | exact rfl) ?_
      refine g_bipush (q := 71) dX12_readLaw_69 (by decide +kernel) rfl ?_
      refine g_iload_n (q := 72) dX12_readLaw_71 rfl rfl ?_
      refine g_iadd (q := 73) dX12_readLaw_72 rfl ?_
      refine g_aload_n (q := 74) dX12_readLaw_73 rfl rfl ?_
      refine g_getA (q := 77) (kI := 4) fX12_24 (by first | assumption | exact S.at _ rfl) dX12_readLaw_74 rfl rfl (by first | assumption | exact L.at _ _ rfl | exact LK.at (by assumption) _ _ rfl | ((repeat first | rewrite [wr_na (by decide)] | rewrite [wr_nk (by decide)] | rewrite [wa_na (by decide)]); first | assumption | exact LK.at (by assumption) _ _ rfl) | exact rfl) ?_
      refine g_sipush (q := 80) dX12_readLaw_77 (by decide +kernel) rfl ?_
      refine g_iaload (q := 81) (by first | assumption | exact S.at _ rfl) (by omega) (by omega) (by omega) dX12_readLaw_80 rfl ?_
      rw [wr_nk (by omega), wr_nk (by omega), h139, hu2]
      refine g_iload_n (q := 82) dX12_readLaw_81 rfl rfl ?_
      refine g_isub (q := 83) dX12_readLaw_82 rfl ?_
      refine g_iastore (q := 84) (by first | assumption | exact S.at _ rfl) (by omega) (by omega) (by omega) dX12_readLaw_83 rfl ?_
      refine g_return dX12_readLaw_84 rfl ?_
      rw [← hPo]
      refine ⟨rfl, ⟨?_, fun _ => ?_⟩, ((f4.tr mlF.w96).tr mlF.w96).tr mlF.w96⟩
      · rw [hE1]
        exact ((M4.w96 (by omega)).w96 (by omega)).w96 (by omega)
      · exact hE2 c4 (frB.eq F e4) hne.1
    · have hw4 : ¬ (lawP T K Pl om a.1).2.1 = 0 := fun z => c_41 (M4.wz.mpr z)
      refine g_return dX12_readLaw_44 rfl ?_
      rw [← hPo]
      refine ⟨rfl, ⟨by rw [hE1]; exact M4, fun z => absurd z (by rw [hE1]; exact hw4)⟩, f4⟩
  refine Mt.of rfl (Nat.le_of_ble_eq_true rfl) ?_
  show G _ 0 [some (.inr (.inr 92)), some (.inl law), none] [] sh ct
  refine g_aload_n (q := 1) dX12_readLaw_0 rfl rfl ?_
  refine g_callV (q := 4) lX12_143 mX12_next nX12_next rfl (tw_nextM 0 sh _ S M hg (by omega) (by omega) (by omega)) (by first | assumption | exact S.at _ rfl) rfl rfl shLe.rf (rmOk.mk (by omega) (by first | exact shLe.rf | assumption)) (Nat.le_of_ble_eq_true rfl) dX12_readLaw_1 rfl rfl (kN fun c1 hp => ?_)
  obtain ⟨M1, f1⟩ := hp
  refine g_aload_n (q := 5) dX12_readLaw_4 rfl rfl ?_
  refine g_bipush (q := 7) dX12_readLaw_5 (by decide +kernel) rfl ?_
  refine g_callV (q := 10) lX12_169 mX12_eats nX12_eats rfl (tw_eats 0 sh _ S M1 n1.1 (x := 31) (y := 58) (by decide) (by decide)) (by first | assumption | exact S.at _ rfl) rfl rfl shLe.rf (rmOk.mk (by omega) (by first | exact shLe.rf | assumption)) (Nat.le_of_ble_eq_true rfl) dX12_readLaw_7 rfl rfl (kI fun v c2 hp => ?_)
  obtain ⟨hp, f2⟩ := hp
  rcases hp with ⟨ht2, rfl, M2⟩ | ⟨ht2, rfl, M2⟩
  · refine g_if_ne (q := 13) (tg := 18) dX12_readLaw_10 (by decide) rfl (fun c_10 => ?_) (fun c_10 => ?_)
    · refine tail _ ?_ (f1.tr f2)
      unfold takeP
      rw [if_pos ht2]
      exact M2
    · exact absurd c_10 (by decide)
  · refine g_if_ne (q := 13) (tg := 18) dX12_readLaw_10 (by decide) rfl (fun c_10 => ?_) (fun c_10 => ?_)
    · exact absurd rfl c_10
    · refine g_aload_n (q := 14) dX12_readLaw_13 rfl rfl ?_
      refine g_iconst (q := 15) dX12_readLaw_14 rfl ?_
      refine g_callV (q := 18) lX12_146 mX12_fails nX12_fails rfl (tw_fails 0 sh _ S M2 (k := 2) (by decide)) (by first | assumption | exact S.at _ rfl) rfl rfl shLe.rf (rmOk.mk (by omega) (by first | exact shLe.rf | assumption)) (Nat.le_of_ble_eq_true rfl) dX12_readLaw_15 rfl rfl (kN fun c3 hp => ?_)
      refine tail _ ?_ ((f1.tr f2).tr hp.2)
      unfold takeP
      rw [if_neg ht2]
      exact hp.1
theorem tw_readLine (S : SH sh) (B : MB ct f n T K Pl E a) (hI : bkRi T a) : Mt YX12_readLine (d + 32) [.inr (.inr 92)] sh sh ct (pN fun c => MB c f n T K Pl E (lineB T K Pl a) ∧ mlF ct c) := by
  have M := B.1
  have L := M.1
  have hg := hI.1
  have s96 : shA sh 96 = some (20, 1040) := S.at _ rfl
  have i10 := kR_iff M.kv (x := 10) (y := 138) (by decide)
  have i11 := kR_iff M.kv (x := 11) (y := 139) (by decide)
  generalize hPo : (pN fun c => MB c f n T K Pl E (lineB T K Pl a) ∧ mlF ct c) = Po
  have law : ∀ om : Bool, tkP K a.1 = (if om = true then 138 else 139) → G (mkK YX12_readLine (d + 32) sh sh Po) 56 [some (.inr (.inr 92))] [] sh ct := by
    intro om ht
    have htk : tkP K a.1 = 138 ∨ tkP K a.1 = 139 := by
      rw [ht]
      split
      · exact Or.inl rfl
      · exact Or.inr rfl
    have hk := tk_go (K := K) (tk_w (K := K) (σ := a.1) (by omega))
    have hv : kR (K a.1.1) - 10 = rdg om := by
      cases om with
      | true =>
        have h : tkP K a.1 = 138 := ht
        show _ = (0 : Int)
        have := i10.mpr (by omega)
        omega
      | false =>
        have h : tkP K a.1 = 139 := ht
        show _ = (1 : Int)
        have := i11.mpr (by omega)
        omega
    refine g_aload_n (q := 57) dX12_readLine_56 rfl rfl ?_
    refine g_aload_n (q := 58) dX12_readLine_57 rfl rfl ?_
    refine g_getI (q := 61) (kI := 9) fX12_116 (by first | assumption | exact S.at _ rfl) dX12_readLine_58 rfl rfl ?_
    rw [M.ki]
    refine g_bipush (q := 63) dX12_readLine_61 (by decide +kernel) rfl ?_
    refine g_isub (q := 64) dX12_readLine_63 rfl ?_
    refine g_callV (q := 67) lX12_201 mX12_readLaw nX12_readLaw rfl (tw_readLaw d sh _ S B hI hv ht) (by first | assumption | exact S.at _ rfl) rfl rfl shLe.rf (rmOk.mk (by omega) (by first | exact shLe.rf | assumption)) (Nat.le_of_ble_eq_true rfl) dX12_readLine_64 rfl rfl (kN fun c1 hp => ?_)
    refine g_goto (q := 100) dX12_readLine_67 (by decide) ?_
    refine g_return dX12_readLine_100 rfl ?_
    rw [← hPo]
    exact ⟨rfl, hp⟩
  refine Mt.of rfl (Nat.le_of_ble_eq_true rfl) ?_
  show G _ 0 [some (.inr (.inr 92))] [] sh ct
  refine g_aload_n (q := 1) dX12_readLine_0 rfl rfl ?_
  refine g_getI (q := 4) (kI := 11) fX12_134 (by first | assumption | exact S.at _ rfl) dX12_readLine_1 rfl rfl ?_
  rw [M.w]
  refine g_if_eq (q := 7) (tg := 8) dX12_readLine_4 (by decide) rfl (fun c_4 => ?_) (fun c_4 => ?_)
  · have hw := M.wz.mp c_4
    refine g_aload_n (q := 9) dX12_readLine_8 rfl rfl ?_
    refine g_iconst (q := 10) dX12_readLine_9 rfl ?_
    refine g_callV (q := 13) lX12_140 mX12_is nX12_is rfl (tw_is 0 sh _ S M (x := 3) (y := 131) (by decide)) (by first | assumption | exact S.at _ rfl) rfl rfl shLe.rf (rmOk.mk (by omega) (by first | exact shLe.rf | assumption)) (Nat.le_of_ble_eq_true rfl) dX12_readLine_10 rfl rfl (kI fun r_ c_ hp => ?_)
    obtain ⟨hr, hq⟩ := hp
    replace hr := hr.symm
    replace hq := hq.symm
    subst hr hq
    refine g_if_eq (q := 16) (tg := 23) dX12_readLine_13 (by decide) rfl (fun c_13 => ?_) (fun c_13 => ?_)
    · have n1 := wb0.mp c_13
      refine g_aload_n (q := 24) dX12_readLine_23 rfl rfl ?_
      refine g_iconst (q := 25) dX12_readLine_24 rfl ?_
      refine g_callV (q := 28) lX12_140 mX12_is nX12_is rfl (tw_is 0 sh _ S M (x := 5) (y := 133) (by decide)) (by first | assumption | exact S.at _ rfl) rfl rfl shLe.rf (rmOk.mk (by omega) (by first | exact shLe.rf | assumption)) (Nat.le_of_ble_eq_true rfl) dX12_readLine_25 rfl rfl (kI fun r_ c_ hp => ?_)
      obtain ⟨hr, hq⟩ := hp
      replace hr := hr.symm
      replace hq := hq.symm
      subst hr hq
      refine g_if_eq (q := 31) (tg := 38) dX12_readLine_28 (by decide) rfl (fun c_28 => ?_) (fun c_28 => ?_)
      · have n2 := wb0.mp c_28
        refine g_aload_n (q := 39) dX12_readLine_38 rfl rfl ?_
        refine g_bipush (q := 41) dX12_readLine_39 (by decide +kernel) rfl ?_
        refine g_callV (q := 44) lX12_140 mX12_is nX12_is rfl (tw_is 0 sh _ S M (x := 10) (y := 138) (by decide)) (by first | assumption | exact S.at _ rfl) rfl rfl shLe.rf (rmOk.mk (by omega) (by first | exact shLe.rf | assumption)) (Nat.le_of_ble_eq_true rfl) dX12_readLine_41 rfl rfl (kI fun r_ c_ hp => ?_)
        obtain ⟨hr, hq⟩ := hp
        replace hr := hr.symm
        replace hq := hq.symm
        subst hr hq
        refine g_if_ne (q := 47) (tg := 56) dX12_readLine_44 (by decide) rfl (fun c_44 => ?_) (fun c_44 => ?_)
        · exact law true (wbn.mp c_44)
        · have n3 := wb0.mp c_44
          refine g_aload_n (q := 48) dX12_readLine_47 rfl rfl ?_
          refine g_bipush (q := 50) dX12_readLine_48 (by decide +kernel) rfl ?_
          refine g_callV (q := 53) lX12_140 mX12_is nX12_is rfl (tw_is 0 sh _ S M (x := 11) (y := 139) (by decide)) (by first | assumption | exact S.at _ rfl) rfl rfl shLe.rf (rmOk.mk (by omega) (by first | exact shLe.rf | assumption)) (Nat.le_of_ble_eq_true rfl) dX12_readLine_50 rfl rfl (kI fun r_ c_ hp => ?_)
          obtain ⟨hr, hq⟩ := hp
          replace hr := hr.symm
          replace hq := hq.symm
          subst hr hq
          refine g_if_eq (q := 56) (tg := 70) dX12_readLine_53 (by decide) rfl (fun c_53 => ?_) (fun c_53 => ?_)
          · have n4 := wb0.mp c_53
            refine g_aload_n (q := 71) dX12_readLine_70 rfl rfl ?_
            refine g_bipush (q := 73) dX12_readLine_71 (by decide +kernel) rfl ?_
            refine g_callV (q := 76) lX12_169 mX12_eats nX12_eats rfl (tw_eats 0 sh _ S M hg (x := 12) (y := 140) (by decide) (by decide)) (by first | assumption | exact S.at _ rfl) rfl rfl shLe.rf (rmOk.mk (by omega) (by first | exact shLe.rf | assumption)) (Nat.le_of_ble_eq_true rfl) dX12_readLine_73 rfl rfl (kI fun v c1 hp => ?_)
            obtain ⟨hp, f1⟩ := hp
            have L1 : LK c1 := f1.L L
            rcases hp with ⟨ht, rfl, M1⟩ | ⟨ht, rfl, M1⟩
            · have hE : lineB T K Pl a = ((numP T K Pl 10 (stepP T a.1)).2, upP a.2.1 4 (numP T K Pl 10 (stepP T a.1)).1, a.2.2) := by
                unfold lineB
                rw [if_neg n1, if_neg n2, if_neg n3, if_neg n4, if_pos ht]
              have g1 := (stepP_gd hg).1
              refine g_if_eq (q := 79) (tg := 95) dX12_readLine_76 (by decide) rfl (fun c_76 => ?_) (fun c_76 => ?_)
              · exact absurd c_76 (by decide)
              · refine g_aload_n (q := 80) dX12_readLine_79 rfl rfl ?_
                refine g_getA (q := 83) (kI := 4) fX12_24 (by first | assumption | exact S.at _ rfl) dX12_readLine_80 rfl rfl (by first | assumption | exact L.at _ _ rfl | exact LK.at (by assumption) _ _ rfl | ((repeat first | rewrite [wr_na (by decide)] | rewrite [wr_nk (by decide)] | rewrite [wa_na (by decide)]); first | assumption | exact LK.at (by assumption) _ _ rfl) | exact rfl) ?_
                refine g_iconst (q := 84) dX12_readLine_83 rfl ?_
                refine g_aload_n (q := 85) dX12_readLine_84 rfl rfl ?_
                refine g_iconst (q := 86) dX12_readLine_85 rfl ?_
                refine g_bipush (q := 88) dX12_readLine_86 (by decide +kernel) rfl ?_
                refine g_callV (q := 91) lX12_187 mX12_takes nX12_takes rfl (tw_takes 0 sh _ S M1 g1 (most := 10) (by decide)) (by first | assumption | exact S.at _ rfl) rfl rfl shLe.rf (rmOk.mk (by omega) (by first | exact shLe.rf | assumption)) (Nat.le_of_ble_eq_true rfl) dX12_readLine_88 rfl rfl (kI fun v c2 hp => ?_)
                obtain ⟨hv, M2, f2⟩ := hp
                refine g_iastore (q := 92) (by first | assumption | exact S.at _ rfl) (by omega) (by omega) (by omega) dX12_readLine_91 rfl ?_
                refine g_goto (q := 100) dX12_readLine_92 (by decide) ?_
                refine g_return dX12_readLine_100 rfl ?_
                rw [← hPo, hE]
                refine ⟨rfl, ⟨M2.w96 (by decide), fun z => ?_⟩, (f1.ml.tr f2.ml).tr mlF.w96⟩
                have e : v = (numP T K Pl 10 (stepP T a.1)).1 := hv z
                rw [e]
                exact (frB.eq (B.2 hw) (fun j _ hj => (f2.2.1 j hj).trans (f1.2.1 j hj))).nu (by decide)
            · have hE : lineB T K Pl a = (failP K Pl 2 a.1, a.2) := by
                unfold lineB
                rw [if_neg n1, if_neg n2, if_neg n3, if_neg n4, if_neg ht]
              refine g_if_eq (q := 79) (tg := 95) dX12_readLine_76 (by decide) rfl (fun c_76 => ?_) (fun c_76 => ?_)
              · refine g_aload_n (q := 96) dX12_readLine_95 rfl rfl ?_
                refine g_iconst (q := 97) dX12_readLine_96 rfl ?_
                refine g_callV (q := 100) lX12_146 mX12_fails nX12_fails rfl (tw_fails 0 sh _ S M1 (k := 2) (by decide)) (by first | assumption | exact S.at _ rfl) rfl rfl shLe.rf (rmOk.mk (by omega) (by first | exact shLe.rf | assumption)) (Nat.le_of_ble_eq_true rfl) dX12_readLine_97 rfl rfl (kN fun c2 hp => ?_)
                refine g_return dX12_readLine_100 rfl ?_
                rw [← hPo, hE]
                exact ⟨rfl, ⟨hp.1, fun z => absurd z (failP_w (by decide))⟩, f1.ml.tr hp.2.ml⟩
              · exact absurd rfl c_76
          · exact law false (wbn.mp c_53)
      · refine g_aload_n (q := 32) dX12_readLine_31 rfl rfl ?_
        refine g_callV (q := 35) lX12_198 mX12_readSaying nX12_readSaying rfl (tw_readSaying 0 sh _ S B hI (wbn.mp c_28)) (by first | assumption | exact S.at _ rfl) rfl rfl shLe.rf (rmOk.mk (by omega) (by first | exact shLe.rf | assumption)) (Nat.le_of_ble_eq_true rfl) dX12_readLine_32 rfl rfl (kN fun c1 hp => ?_)
        refine g_goto (q := 100) dX12_readLine_35 (by decide) ?_
        refine g_return dX12_readLine_100 rfl ?_
        rw [← hPo]
        exact ⟨rfl, hp⟩
    · refine g_aload_n (q := 17) dX12_readLine_16 rfl rfl ?_
      refine g_callV (q := 20) lX12_195 mX12_readMember nX12_readMember rfl (tw_readMember 0 sh _ S B hI (wbn.mp c_13)) (by first | assumption | exact S.at _ rfl) rfl rfl shLe.rf (rmOk.mk (by omega) (by first | exact shLe.rf | assumption)) (Nat.le_of_ble_eq_true rfl) dX12_readLine_17 rfl rfl (kN fun c1 hp => ?_)
      refine g_goto (q := 100) dX12_readLine_20 (by decide) ?_
      refine g_return dX12_readLine_100 rfl ?_
      rw [← hPo]
      exact ⟨rfl, hp⟩
  · have hw : ¬ a.1.2.1 = 0 := fun z => c_4 (M.wz.mpr z)
    have hE : lineB T K Pl a = a := by
      unfold lineB
      rw [tk_stop hw, if_neg (by decide), if_neg (by decide), if_neg (by decide), if_neg (by decide), if_neg (by decide), failP_stop hw]
    refine g_return dX12_readLine_7 rfl ?_
    rw [← hPo, hE]
    exact ⟨rfl, B, mlF.rf⟩
end
