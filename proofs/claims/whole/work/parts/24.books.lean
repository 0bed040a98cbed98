/-! books, images -/
section
variable (d : Nat) (sh : mbSh) (ct : mbCt)
def clC (ct : mbCt) (b : Int) : mbCt := fun x j => if x = b ∧ 0 ≤ j ∧ j ≤ 10 then 0 else if x = b + 1 ∧ 0 ≤ j ∧ j < 6 then 0 else if x = b + 2 ∧ 0 ≤ j ∧ j < 8 then 0 else if x = b + 3 ∧ 0 ≤ j ∧ j < 8 then 0 else ct x j
theorem c_clear {b : Int} (hb : bkAt sh ct b) : Mt YX0_clear (d + 1) [.inr (.inr b)] sh sh ct (pN fun c => c = clC ct b) := by
  obtain ⟨b1, b2, b3, b4, b5, b6, b7, b8, b9⟩ := hb
  refine Mt.of rfl (Nat.le_of_ble_eq_true rfl) ?_
  show G _ 0 [some (.inr (.inr b))] [] sh ct
  refine g_aload_n (q := 1) dX0_clear_0 rfl rfl ?_
  refine g_iconst (q := 2) dX0_clear_1 rfl ?_
  refine g_putI (q := 5) (kI := 0) fX0_25 (by first | assumption | exact S.at _ rfl) dX0_clear_2 rfl rfl ?_
  refine g_aload_n (q := 6) dX0_clear_5 rfl rfl ?_
  refine g_iconst (q := 7) dX0_clear_6 rfl ?_
  refine g_putI (q := 10) (kI := 1) fX0_29 (by first | assumption | exact S.at _ rfl) dX0_clear_7 rfl rfl ?_
  refine g_aload_n (q := 11) dX0_clear_10 rfl rfl ?_
  refine g_iconst (q := 12) dX0_clear_11 rfl ?_
  refine g_putI (q := 15) (kI := 2) fX0_32 (by first | assumption | exact S.at _ rfl) dX0_clear_12 rfl rfl ?_
  refine g_aload_n (q := 16) dX0_clear_15 rfl rfl ?_
  refine g_iconst (q := 17) dX0_clear_16 rfl ?_
  refine g_putI (q := 20) (kI := 3) fX0_35 (by first | assumption | exact S.at _ rfl) dX0_clear_17 rfl rfl ?_
  refine g_aload_n (q := 21) dX0_clear_20 rfl rfl ?_
  refine g_iconst (q := 22) dX0_clear_21 rfl ?_
  refine g_putI (q := 25) (kI := 4) fX0_38 (by first | assumption | exact S.at _ rfl) dX0_clear_22 rfl rfl ?_
  refine g_aload_n (q := 26) dX0_clear_25 rfl rfl ?_
  refine g_iconst (q := 27) dX0_clear_26 rfl ?_
  refine g_putI (q := 30) (kI := 5) fX0_41 (by first | assumption | exact S.at _ rfl) dX0_clear_27 rfl rfl ?_
  refine g_aload_n (q := 31) dX0_clear_30 rfl rfl ?_
  refine g_iconst (q := 32) dX0_clear_31 rfl ?_
  refine g_putI (q := 35) (kI := 6) fX0_44 (by first | assumption | exact S.at _ rfl) dX0_clear_32 rfl rfl ?_
  refine g_aload_n (q := 36) dX0_clear_35 rfl rfl ?_
  refine g_iconst (q := 37) dX0_clear_36 rfl ?_
  refine g_putI (q := 40) (kI := 7) fX0_47 (by first | assumption | exact S.at _ rfl) dX0_clear_37 rfl rfl ?_
  refine g_aload_n (q := 41) dX0_clear_40 rfl rfl ?_
  refine g_iconst (q := 42) dX0_clear_41 rfl ?_
  refine g_putI (q := 45) (kI := 8) fX0_50 (by first | assumption | exact S.at _ rfl) dX0_clear_42 rfl rfl ?_
  refine g_aload_n (q := 46) dX0_clear_45 rfl rfl ?_
  refine g_iconst (q := 47) dX0_clear_46 rfl ?_
  refine g_putI (q := 50) (kI := 9) fX0_53 (by first | assumption | exact S.at _ rfl) dX0_clear_47 rfl rfl ?_
  refine g_aload_n (q := 51) dX0_clear_50 rfl rfl ?_
  refine g_iconst (q := 52) dX0_clear_51 rfl ?_
  refine g_putI (q := 55) (kI := 10) fX0_56 (by first | assumption | exact S.at _ rfl) dX0_clear_52 rfl rfl ?_
  generalize hc0 : wr _ b 10 0 = c0
  have e0 : ∀ x j, c0 x j = if x = b ∧ 0 ≤ j ∧ j ≤ 10 then 0 else ct x j := by
    intro x j
    rw [← hc0]
    unfold wr
    grind (splits := 40)
  have l1 : c0 b 11 = b + 1 := by rw [e0]; grind
  refine g_aload_n (q := 56) dX0_clear_55 rfl rfl ?_
  refine g_getA (q := 59) (kI := 11) fX0_9 (by first | assumption | exact S.at _ rfl) dX0_clear_56 rfl rfl (by first | assumption | exact L.at _ _ rfl | exact LK.at (by assumption) _ _ rfl | ((repeat first | rewrite [wr_na (by decide)] | rewrite [wr_nk (by decide)] | rewrite [wa_na (by decide)]); first | assumption | exact LK.at (by assumption) _ _ rfl) | exact rfl) ?_
  refine g_iconst (q := 60) dX0_clear_59 rfl ?_
  refine g_callS (q := 63) lX0_59 mJ7_fill_53178 sJ7_fill_53178 rfl (c_fillI d sh c0 b2 (by decide)) shLe.rf (rmOk.mk (by omega) (by first | exact shLe.rf | assumption)) (Nat.le_of_ble_eq_true rfl) dX0_clear_60 rfl rfl (kN fun c hp => ?_)
  have l2 : c b 12 = b + 2 := by rw [hp, wa_na (by omega), e0]; grind
  refine g_aload_n (q := 64) dX0_clear_63 rfl rfl ?_
  refine g_getA (q := 67) (kI := 12) fX0_15 (by first | assumption | exact S.at _ rfl) dX0_clear_64 rfl rfl (by first | assumption | exact L.at _ _ rfl | exact LK.at (by assumption) _ _ rfl | ((repeat first | rewrite [wr_na (by decide)] | rewrite [wr_nk (by decide)] | rewrite [wa_na (by decide)]); first | assumption | exact LK.at (by assumption) _ _ rfl) | exact rfl) ?_
  refine g_iconst (q := 68) dX0_clear_67 rfl ?_
  refine g_callS (q := 71) lX0_59 mJ7_fill_53178 sJ7_fill_53178 rfl (c_fillI d sh c b3 (by decide)) shLe.rf (rmOk.mk (by omega) (by first | exact shLe.rf | assumption)) (Nat.le_of_ble_eq_true rfl) dX0_clear_68 rfl rfl (kN fun c3 hp3 => ?_)
  have l3 : c3 b 13 = b + 3 := by rw [hp3, wa_na (by omega), hp, wa_na (by omega), e0]; grind
  refine g_aload_n (q := 72) dX0_clear_71 rfl rfl ?_
  refine g_getA (q := 75) (kI := 13) fX0_18 (by first | assumption | exact S.at _ rfl) dX0_clear_72 rfl rfl (by first | assumption | exact L.at _ _ rfl | exact LK.at (by assumption) _ _ rfl | ((repeat first | rewrite [wr_na (by decide)] | rewrite [wr_nk (by decide)] | rewrite [wa_na (by decide)]); first | assumption | exact LK.at (by assumption) _ _ rfl) | exact rfl) ?_
  refine g_iconst (q := 76) dX0_clear_75 rfl ?_
  refine g_callS (q := 79) lX0_59 mJ7_fill_53178 sJ7_fill_53178 rfl (c_fillI d sh c3 b4 (by decide)) shLe.rf (rmOk.mk (by omega) (by first | exact shLe.rf | assumption)) (Nat.le_of_ble_eq_true rfl) dX0_clear_76 rfl rfl (kN fun c4 hp4 => ?_)
  refine g_return dX0_clear_79 rfl ?_
  refine ⟨rfl, ?_⟩
  rw [hp4, hp3, hp]
  funext x j
  simp only [clC, wa, flF, e0]
  grind (splits := 40)
def bbC (ct : mbCt) (b o : Int) : mbCt := fun x j => if x = b ∧ 0 ≤ j ∧ j ≤ 10 then ct o j else if x = b + 1 ∧ 0 ≤ j ∧ j < 6 then ct (o + 1) j else if x = b + 2 ∧ 0 ≤ j ∧ j < 8 then ct (o + 2) j else if x = b + 3 ∧ 0 ≤ j ∧ j < 8 then ct (o + 3) j else if x = b + 4 ∧ 0 ≤ j ∧ j < ct o 6 then ct (o + 4) j else ct x j
theorem fits_short {E : mbE} {z : Int} (h1 : -32768 ≤ z) (h2 : z < 32768) : fits .short (fv E .short z) = true := by
  show (decide (-32768 ≤ Int32.ofInt z) && decide (Int32.ofInt z ≤ 32767)) = true
  rw [Bool.and_eq_true, decide_eq_true_eq, decide_eq_true_eq]
  constructor
  · have := (mb_ile (-32768) z).mpr (by rw [w32_id (by omega) (by omega), w32_id (by omega) (by omega)]; exact h1)
    exact this
  · have := (mb_ile z 32767).mpr (by rw [w32_id (by omega) (by omega), w32_id (by omega) (by omega)]; omega)
    exact this
theorem c_bookBecome {b o : Int} (hb : bkAt sh ct b) (ho : bkAt sh ct o) (hne : o + 5 ≤ b ∨ b + 5 ≤ o) (h0 : 0 ≤ ct o 6) (h1 : ct o 6 ≤ 900) (hs : ∀ j, 0 ≤ j → j < ct o 6 → -32768 ≤ ct (o + 4) j ∧ ct (o + 4) j < 32768) : Mt YX0_become (d + 1) [.inr (.inr b), .inr (.inr o)] sh sh ct (pN fun c => c = bbC ct b o) := by
  obtain ⟨b1, b2, b3, b4, b5, b6, b7, b8, b9⟩ := hb
  obtain ⟨o1, o2, o3, o4, o5, o6, o7, o8, o9⟩ := ho
  have hob : o ≠ b := by omega
  refine Mt.of rfl (Nat.le_of_ble_eq_true rfl) ?_
  show G _ 0 [some (.inr (.inr b)), some (.inr (.inr o))] [] sh ct
  refine g_aload_n (q := 1) dX0_become_0 rfl rfl ?_
  refine g_aload_n (q := 2) dX0_become_1 rfl rfl ?_
  refine g_getI (q := 5) (kI := 0) fX0_25 (by first | assumption | exact S.at _ rfl) dX0_become_2 rfl rfl ?_
  refine g_putI (q := 8) (kI := 0) fX0_25 (by first | assumption | exact S.at _ rfl) dX0_become_5 rfl rfl ?_
  refine g_aload_n (q := 9) dX0_become_8 rfl rfl ?_
  refine g_aload_n (q := 10) dX0_become_9 rfl rfl ?_
  refine g_getI (q := 13) (kI := 1) fX0_29 (by first | assumption | exact S.at _ rfl) dX0_become_10 rfl rfl ?_
  refine g_putI (q := 16) (kI := 1) fX0_29 (by first | assumption | exact S.at _ rfl) dX0_become_13 rfl rfl ?_
  refine g_aload_n (q := 17) dX0_become_16 rfl rfl ?_
  refine g_aload_n (q := 18) dX0_become_17 rfl rfl ?_
  refine g_getI (q := 21) (kI := 2) fX0_32 (by first | assumption | exact S.at _ rfl) dX0_become_18 rfl rfl ?_
  refine g_putI (q := 24) (kI := 2) fX0_32 (by first | assumption | exact S.at _ rfl) dX0_become_21 rfl rfl ?_
  refine g_aload_n (q := 25) dX0_become_24 rfl rfl ?_
  refine g_aload_n (q := 26) dX0_become_25 rfl rfl ?_
  refine g_getI (q := 29) (kI := 3) fX0_35 (by first | assumption | exact S.at _ rfl) dX0_become_26 rfl rfl ?_
  refine g_putI (q := 32) (kI := 3) fX0_35 (by first | assumption | exact S.at _ rfl) dX0_become_29 rfl rfl ?_
  refine g_aload_n (q := 33) dX0_become_32 rfl rfl ?_
  refine g_aload_n (q := 34) dX0_become_33 rfl rfl ?_
  refine g_getI (q := 37) (kI := 4) fX0_38 (by first | assumption | exact S.at _ rfl) dX0_become_34 rfl rfl ?_
  refine g_putI (q := 40) (kI := 4) fX0_38 (by first | assumption | exact S.at _ rfl) dX0_become_37 rfl rfl ?_
  refine g_aload_n (q := 41) dX0_become_40 rfl rfl ?_
  refine g_aload_n (q := 42) dX0_become_41 rfl rfl ?_
  refine g_getI (q := 45) (kI := 5) fX0_41 (by first | assumption | exact S.at _ rfl) dX0_become_42 rfl rfl ?_
  refine g_putI (q := 48) (kI := 5) fX0_41 (by first | assumption | exact S.at _ rfl) dX0_become_45 rfl rfl ?_
  refine g_aload_n (q := 49) dX0_become_48 rfl rfl ?_
  refine g_aload_n (q := 50) dX0_become_49 rfl rfl ?_
  refine g_getI (q := 53) (kI := 6) fX0_44 (by first | assumption | exact S.at _ rfl) dX0_become_50 rfl rfl ?_
  refine g_putI (q := 56) (kI := 6) fX0_44 (by first | assumption | exact S.at _ rfl) dX0_become_53 rfl rfl ?_
  refine g_aload_n (q := 57) dX0_become_56 rfl rfl ?_
  refine g_aload_n (q := 58) dX0_become_57 rfl rfl ?_
  refine g_getI (q := 61) (kI := 7) fX0_47 (by first | assumption | exact S.at _ rfl) dX0_become_58 rfl rfl ?_
  refine g_putI (q := 64) (kI := 7) fX0_47 (by first | assumption | exact S.at _ rfl) dX0_become_61 rfl rfl ?_
  refine g_aload_n (q := 65) dX0_become_64 rfl rfl ?_
  refine g_aload_n (q := 66) dX0_become_65 rfl rfl ?_
  refine g_getI (q := 69) (kI := 8) fX0_50 (by first | assumption | exact S.at _ rfl) dX0_become_66 rfl rfl ?_
  refine g_putI (q := 72) (kI := 8) fX0_50 (by first | assumption | exact S.at _ rfl) dX0_become_69 rfl rfl ?_
  refine g_aload_n (q := 73) dX0_become_72 rfl rfl ?_
  refine g_aload_n (q := 74) dX0_become_73 rfl rfl ?_
  refine g_getI (q := 77) (kI := 9) fX0_53 (by first | assumption | exact S.at _ rfl) dX0_become_74 rfl rfl ?_
  refine g_putI (q := 80) (kI := 9) fX0_53 (by first | assumption | exact S.at _ rfl) dX0_become_77 rfl rfl ?_
  refine g_aload_n (q := 81) dX0_become_80 rfl rfl ?_
  refine g_aload_n (q := 82) dX0_become_81 rfl rfl ?_
  refine g_getI (q := 85) (kI := 10) fX0_56 (by first | assumption | exact S.at _ rfl) dX0_become_82 rfl rfl ?_
  refine g_putI (q := 88) (kI := 10) fX0_56 (by first | assumption | exact S.at _ rfl) dX0_become_85 rfl rfl ?_
  simp only [wr_na hob]
  generalize hc0 : wr _ b 10 _ = c0
  have e0 : ∀ x j, c0 x j = if x = b ∧ 0 ≤ j ∧ j ≤ 10 then ct o j else ct x j := by
    intro x j
    rw [← hc0]
    unfold wr
    grind (splits := 40)
  have q : ∀ x j, x ≠ b → c0 x j = ct x j := fun x j hx => by rw [e0, if_neg (by omega)]
  have l1 : c0 o 11 = o + 1 := by rw [q _ _ hob]; exact o6
  have l2 : c0 b 11 = b + 1 := by rw [e0, if_neg (by omega)]; exact b6
  refine g_aload_n (q := 89) dX0_become_88 rfl rfl ?_
  refine g_getA (q := 92) (kI := 11) fX0_9 (by first | assumption | exact S.at _ rfl) dX0_become_89 rfl rfl (by first | assumption | exact L.at _ _ rfl | exact LK.at (by assumption) _ _ rfl | ((repeat first | rewrite [wr_na (by decide)] | rewrite [wr_nk (by decide)] | rewrite [wa_na (by decide)]); first | assumption | exact LK.at (by assumption) _ _ rfl) | exact rfl) ?_
  refine g_iconst (q := 93) dX0_become_92 rfl ?_
  refine g_aload_n (q := 94) dX0_become_93 rfl rfl ?_
  refine g_getA (q := 97) (kI := 11) fX0_9 (by first | assumption | exact S.at _ rfl) dX0_become_94 rfl rfl (by first | assumption | exact L.at _ _ rfl | exact LK.at (by assumption) _ _ rfl | ((repeat first | rewrite [wr_na (by decide)] | rewrite [wr_nk (by decide)] | rewrite [wa_na (by decide)]); first | assumption | exact LK.at (by assumption) _ _ rfl) | exact rfl) ?_
  refine g_iconst (q := 98) dX0_become_97 rfl ?_
  refine g_bipush (q := 100) dX0_become_98 (by decide +kernel) rfl ?_
  refine g_copy (q := 103) lX0_65 (by first | assumption | exact S.at _ rfl) (by first | assumption | exact S.at _ rfl) (by decide) (by decide) (by omega) (by omega) (by omega) (by omega) (by omega) (by decide) (by decide) (fun _ _ _ _ => rfl) (rmOk.mk (by omega) shLe.rf) (Nat.le_of_ble_eq_true rfl) dX0_become_100 rfl ?_
  rw [cpF_00]
  generalize hc1 : wa c0 (b + 1) _ = c1
  have l3 : c1 o 12 = o + 2 := by rw [← hc1, wa_na (by omega), q _ _ hob]; exact o7
  have l4 : c1 b 12 = b + 2 := by rw [← hc1, wa_na (by omega), e0, if_neg (by omega)]; exact b7
  refine g_aload_n (q := 104) dX0_become_103 rfl rfl ?_
  refine g_getA (q := 107) (kI := 12) fX0_15 (by first | assumption | exact S.at _ rfl) dX0_become_104 rfl rfl (by first | assumption | exact L.at _ _ rfl | exact LK.at (by assumption) _ _ rfl | ((repeat first | rewrite [wr_na (by decide)] | rewrite [wr_nk (by decide)] | rewrite [wa_na (by decide)]); first | assumption | exact LK.at (by assumption) _ _ rfl) | exact rfl) ?_
  refine g_iconst (q := 108) dX0_become_107 rfl ?_
  refine g_aload_n (q := 109) dX0_become_108 rfl rfl ?_
  refine g_getA (q := 112) (kI := 12) fX0_15 (by first | assumption | exact S.at _ rfl) dX0_become_109 rfl rfl (by first | assumption | exact L.at _ _ rfl | exact LK.at (by assumption) _ _ rfl | ((repeat first | rewrite [wr_na (by decide)] | rewrite [wr_nk (by decide)] | rewrite [wa_na (by decide)]); first | assumption | exact LK.at (by assumption) _ _ rfl) | exact rfl) ?_
  refine g_iconst (q := 113) dX0_become_112 rfl ?_
  refine g_bipush (q := 115) dX0_become_113 (by decide +kernel) rfl ?_
  refine g_copy (q := 118) lX0_65 (by first | assumption | exact S.at _ rfl) (by first | assumption | exact S.at _ rfl) (by decide) (by decide) (by omega) (by omega) (by omega) (by omega) (by omega) (by decide) (by decide) (fun _ _ _ _ => rfl) (rmOk.mk (by omega) shLe.rf) (Nat.le_of_ble_eq_true rfl) dX0_become_115 rfl ?_
  rw [cpF_00]
  generalize hc2 : wa c1 (b + 2) _ = c2
  have l5 : c2 o 13 = o + 3 := by rw [← hc2, wa_na (by omega), ← hc1, wa_na (by omega), q _ _ hob]; exact o8
  have l6 : c2 b 13 = b + 3 := by rw [← hc2, wa_na (by omega), ← hc1, wa_na (by omega), e0, if_neg (by omega)]; exact b8
  refine g_aload_n (q := 119) dX0_become_118 rfl rfl ?_
  refine g_getA (q := 122) (kI := 13) fX0_18 (by first | assumption | exact S.at _ rfl) dX0_become_119 rfl rfl (by first | assumption | exact L.at _ _ rfl | exact LK.at (by assumption) _ _ rfl | ((repeat first | rewrite [wr_na (by decide)] | rewrite [wr_nk (by decide)] | rewrite [wa_na (by decide)]); first | assumption | exact LK.at (by assumption) _ _ rfl) | exact rfl) ?_
  refine g_iconst (q := 123) dX0_become_122 rfl ?_
  refine g_aload_n (q := 124) dX0_become_123 rfl rfl ?_
  refine g_getA (q := 127) (kI := 13) fX0_18 (by first | assumption | exact S.at _ rfl) dX0_become_124 rfl rfl (by first | assumption | exact L.at _ _ rfl | exact LK.at (by assumption) _ _ rfl | ((repeat first | rewrite [wr_na (by decide)] | rewrite [wr_nk (by decide)] | rewrite [wa_na (by decide)]); first | assumption | exact LK.at (by assumption) _ _ rfl) | exact rfl) ?_
  refine g_iconst (q := 128) dX0_become_127 rfl ?_
  refine g_bipush (q := 130) dX0_become_128 (by decide +kernel) rfl ?_
  refine g_copy (q := 133) lX0_65 (by first | assumption | exact S.at _ rfl) (by first | assumption | exact S.at _ rfl) (by decide) (by decide) (by omega) (by omega) (by omega) (by omega) (by omega) (by decide) (by decide) (fun _ _ _ _ => rfl) (rmOk.mk (by omega) shLe.rf) (Nat.le_of_ble_eq_true rfl) dX0_become_130 rfl ?_
  rw [cpF_00]
  generalize hc3 : wa c2 (b + 3) _ = c3
  have l7 : c3 o 14 = o + 4 := by rw [← hc3, wa_na (by omega), ← hc2, wa_na (by omega), ← hc1, wa_na (by omega), q _ _ hob]; exact o9
  have l8 : c3 b 14 = b + 4 := by rw [← hc3, wa_na (by omega), ← hc2, wa_na (by omega), ← hc1, wa_na (by omega), e0, if_neg (by omega)]; exact b9
  have l9 : c3 b 6 = ct o 6 := by rw [← hc3, wa_na (by omega), ← hc2, wa_na (by omega), ← hc1, wa_na (by omega), e0, if_pos (by omega)]
  have l10 : ∀ j, c3 (o + 4) j = ct (o + 4) j := fun j => by rw [← hc3, wa_na (by omega), ← hc2, wa_na (by omega), ← hc1, wa_na (by omega), q _ _ (by omega)]
  refine g_aload_n (q := 134) dX0_become_133 rfl rfl ?_
  refine g_getA (q := 137) (kI := 14) fX0_21 (by first | assumption | exact S.at _ rfl) dX0_become_134 rfl rfl (by first | assumption | exact L.at _ _ rfl | exact LK.at (by assumption) _ _ rfl | ((repeat first | rewrite [wr_na (by decide)] | rewrite [wr_nk (by decide)] | rewrite [wa_na (by decide)]); first | assumption | exact LK.at (by assumption) _ _ rfl) | exact rfl) ?_
  refine g_iconst (q := 138) dX0_become_137 rfl ?_
  refine g_aload_n (q := 139) dX0_become_138 rfl rfl ?_
  refine g_getA (q := 142) (kI := 14) fX0_21 (by first | assumption | exact S.at _ rfl) dX0_become_139 rfl rfl (by first | assumption | exact L.at _ _ rfl | exact LK.at (by assumption) _ _ rfl | ((repeat first | rewrite [wr_na (by decide)] | rewrite [wr_nk (by decide)] | rewrite [wa_na (by decide)]); first | assumption | exact LK.at (by assumption) _ _ rfl) | exact rfl) ?_
  refine g_iconst (q := 143) dX0_become_142 rfl ?_
  refine g_aload_n (q := 144) dX0_become_143 rfl rfl ?_
  refine g_getI (q := 147) (kI := 6) fX0_44 (by first | assumption | exact S.at _ rfl) dX0_become_144 rfl rfl ?_
  rw [l9]
  refine g_copy (q := 150) lX0_65 (by first | assumption | exact S.at _ rfl) (by first | assumption | exact S.at _ rfl) (by decide) (by decide) (by omega) (by omega) (by omega) (by omega) (by omega) (by decide) (by decide) (fun E i i0 i1 => by rw [l10]; exact fits_short (hs _ (by omega) (by omega)).1 (hs _ (by omega) (by omega)).2) (rmOk.mk (by omega) shLe.rf) (Nat.le_of_ble_eq_true rfl) dX0_become_147 rfl ?_
  rw [cpF_00]
  refine g_return dX0_become_150 rfl ?_
  refine ⟨rfl, ?_⟩
  have p1 : ∀ j, c0 (o + 1) j = ct (o + 1) j := fun j => q _ _ (by omega)
  have p2 : ∀ j, c1 (o + 2) j = ct (o + 2) j := fun j => by rw [← hc1, wa_na (by omega), q _ _ (by omega)]
  have p3 : ∀ j, c2 (o + 3) j = ct (o + 3) j := fun j => by rw [← hc2, wa_na (by omega), ← hc1, wa_na (by omega), q _ _ (by omega)]
  funext x j
  simp only [bbC, wa, cp0, l10]
  rw [← hc3, ← hc2, ← hc1]
  simp only [wa, cp0, p1, e0]
  have p2' := p2 j
  have p3' := p3 j
  rw [← hc1] at p2'
  rw [← hc2, ← hc1] at p3'
  simp only [wa, cp0, e0] at p2' p3'
  grind (splits := 40)
def acC (ct : mbCt) (b op : Int) : mbCt := if ct b 6 < 900 then wr (wr ct (b + 4) (ct b 6) op) b 6 (ct b 6 + 1) else ct
theorem c_addCode {b op : Int} (hb : bkAt sh ct b) (h0 : 0 ≤ ct b 6) (h1 : ct b 6 ≤ 900) (h2 : -32768 ≤ op) (h3 : op < 32768) : Mt YX0_addCode d [.inr (.inr b), .inl op] sh sh ct (pN fun c => c = acC ct b op) := by
  obtain ⟨b1, b2, b3, b4, b5, b6, b7, b8, b9⟩ := hb
  refine Mt.of rfl (Nat.le_of_ble_eq_true rfl) ?_
  show G _ 0 [some (.inr (.inr b)), some (.inl op)] [] sh ct
  refine g_aload_n (q := 1) dX0_addCode_0 rfl rfl ?_
  refine g_getI (q := 4) (kI := 6) fX0_44 (by first | assumption | exact S.at _ rfl) dX0_addCode_1 rfl rfl ?_
  refine g_sipush (q := 7) dX0_addCode_4 (by decide +kernel) rfl ?_
  refine g_icmp_ge (q := 10) (tg := 31) dX0_addCode_7 (by decide) rfl (fun c_7 => ?_) (fun c_7 => ?_)
  · have : ¬ ct b 6 < 900 := by unfold w32 at c_7; omega
    refine g_return dX0_addCode_31 rfl ?_
    refine ⟨rfl, ?_⟩
    unfold acC
    rw [if_neg this]
  · have h : ct b 6 < 900 := by unfold w32 at c_7; omega
    refine g_aload_n (q := 11) dX0_addCode_10 rfl rfl ?_
    refine g_getA (q := 14) (kI := 14) fX0_21 (by first | assumption | exact S.at _ rfl) dX0_addCode_11 rfl rfl (by first | assumption | exact L.at _ _ rfl | exact LK.at (by assumption) _ _ rfl | ((repeat first | rewrite [wr_na (by decide)] | rewrite [wr_nk (by decide)] | rewrite [wa_na (by decide)]); first | assumption | exact LK.at (by assumption) _ _ rfl) | exact rfl) ?_
    refine g_aload_n (q := 15) dX0_addCode_14 rfl rfl ?_
    refine g_getI (q := 18) (kI := 6) fX0_44 (by first | assumption | exact S.at _ rfl) dX0_addCode_15 rfl rfl ?_
    refine g_iload_n (q := 19) dX0_addCode_18 rfl rfl ?_
    refine g_i2s (q := 20) dX0_addCode_19 rfl ?_
    refine g_sastore (q := 21) (by first | assumption | exact S.at _ rfl) (by omega) (by omega) (by omega) dX0_addCode_20 rfl ?_
    refine g_aload_n (q := 22) dX0_addCode_21 rfl rfl ?_
    refine g_dup (q := 23) dX0_addCode_22 rfl rfl ?_
    refine g_getI (q := 26) (kI := 6) fX0_44 (by first | assumption | exact S.at _ rfl) dX0_addCode_23 rfl rfl ?_
    refine g_iconst (q := 27) dX0_addCode_26 rfl ?_
    refine g_iadd (q := 28) dX0_addCode_27 rfl ?_
    refine g_putI (q := 31) (kI := 6) fX0_44 (by first | assumption | exact S.at _ rfl) dX0_addCode_28 rfl rfl ?_
    refine g_return dX0_addCode_31 rfl ?_
    refine ⟨rfl, ?_⟩
    unfold acC
    rw [if_pos h, w16_id (x := w16 op) (by unfold w16; omega) (by unfold w16; omega), w16_id h2 h3, wr_na (by omega)]
def kpC (ct : mbCt) (a b s : Int) : mbCt := wr (beC (bbC ct (a + 1) b) (a + 6) s) a 0 1
end
