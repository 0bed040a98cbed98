/-! MinuteBook: monday -/
section
variable (d : Nat) (sh : mbSh) (ct : mbCt) {b : Int} {β : Bk} {s z : Sit} {q : Int} {N : Nat} {V n : Int} {pl : Int → Sit}
set_option maxRecDepth 4000 in
theorem x_monday {x t : Int} (S : SH sh) (C : CP sh ct b β s n pl q N V) (ht : i32 t) : Mt YX11_monday (d + 4) [.inr (.inr 0), .inl x, .inl t] sh sh ct (pI fun r c => ((¬ (1 ≤ t ∧ t ≤ 40) ∧ r = -3 ∧ CP sh c b β s n pl q N V) ∨ ((1 ≤ t ∧ t ≤ 40) ∧ r = (mRun β t.toNat s x 0).2 ∧ ((r = 0 ∧ CP sh c b β s n pl q N V) ∨ (0 < r ∧ CP sh c b β (mRun β t.toNat s x 0).1 (pushN n) (pushP n pl s) q N V)))) ∧ dG ct c) := by
  obtain ⟨X, P⟩ := C
  have L := X.L
  have hB := X.2.2.1.1
  have hcn := X.2.2.1.2.1
  have hbk := X.2.2.1.2.2
  unfold i32 at ht
  have wt := w32_id ht.1 ht.2
  have hdr : ∀ x : Int, 1103515245 * x + 12345 = drw x := fun _ => rfl
  have hv6 : ∀ x : Int, (w32 (ushI x 16)).tmod (w32 6) = drwV x 6 := fun x => by
    have hu := ush16 x
    rw [w32_id (x := ushI x 16) (by omega) (by omega), tm_pos hu.1]
    rfl
  have hv8 : ∀ x : Int, (w32 (ushI x 16)).tmod (w32 8) = drwV x 8 := fun x => by
    have hu := ush16 x
    rw [w32_id (x := ushI x 16) (by omega) (by omega), tm_pos hu.1]
    rfl
  have hv10 : ∀ x : Int, (w32 (ushI x 16)).tmod (w32 10) = drwV x 10 := fun x => by
    have hu := ush16 x
    rw [w32_id (x := ushI x 16) (by omega) (by omega), tm_pos hu.1]
    rfl
  generalize hP : (pI fun r c => ((¬ (1 ≤ t ∧ t ≤ 40) ∧ r = -3 ∧ CP sh c b β s n pl q N V) ∨ ((1 ≤ t ∧ t ≤ 40) ∧ r = (mRun β t.toNat s x 0).2 ∧ ((r = 0 ∧ CP sh c b β s n pl q N V) ∨ (0 < r ∧ CP sh c b β (mRun β t.toNat s x 0).1 (pushN n) (pushP n pl s) q N V)))) ∧ dG ct c) = Po
  have bad : ¬ (1 ≤ t ∧ t ≤ 40) → G (mkK YX11_monday (d + 4) sh sh Po) 11 [some (.inr (.inr 0)), some (.inl x), some (.inl t), none, none, none, none, none, none, none] [] sh ct := by
    intro h
    refine g_bipush (q := 13) dX11_monday_11 (by decide +kernel) rfl ?_
    refine g_ireturn dX11_monday_13 rfl ?_
    rw [← hP]
    exact ⟨_, rfl, Or.inl ⟨h, rfl, X, P⟩, dG.rf⟩
  refine Mt.of rfl (Nat.le_of_ble_eq_true rfl) ?_
  show G _ 0 [some (.inr (.inr 0)), some (.inl x), some (.inl t), none, none, none, none, none, none, none] [] sh ct
  refine g_iload_n (q := 1) dX11_monday_0 rfl rfl ?_
  refine g_iconst (q := 2) dX11_monday_1 rfl ?_
  refine g_icmp_lt (q := 5) (tg := 11) dX11_monday_2 (by decide) rfl (fun c_2 => ?_) (fun c_2 => ?_)
  · refine bad ?_
    rw [wt, show w32 1 = 1 from rfl] at c_2
    omega
  · rw [wt, show w32 1 = 1 from rfl] at c_2
    refine g_iload_n (q := 6) dX11_monday_5 rfl rfl ?_
    refine g_bipush (q := 8) dX11_monday_6 (by decide +kernel) rfl ?_
    refine g_icmp_le (q := 11) (tg := 14) dX11_monday_8 (by decide) rfl (fun c_8 => ?_) (fun c_8 => ?_)
    · rw [wt, show w32 40 = 40 from rfl] at c_8
      have h14 : 1 ≤ t ∧ t ≤ 40 := by omega
      refine g_aload_n (q := 15) dX11_monday_14 rfl rfl ?_
      refine g_getO (q := 18) (kI := 5) fX11_34 (by first | assumption | exact S.at _ rfl) dX11_monday_15 rfl rfl (by first | assumption | exact L.at _ _ rfl | exact LK.at (by assumption) _ _ rfl | ((repeat first | rewrite [wr_na (by decide)] | rewrite [wr_nk (by decide)] | rewrite [wa_na (by decide)]); first | assumption | exact LK.at (by assumption) _ _ rfl) | exact rfl) ?_
      refine g_aload_n (q := 19) dX11_monday_18 rfl rfl ?_
      refine g_getO (q := 22) (kI := 4) fX11_30 (by first | assumption | exact S.at _ rfl) dX11_monday_19 rfl rfl (by first | assumption | exact L.at _ _ rfl | exact LK.at (by assumption) _ _ rfl | ((repeat first | rewrite [wr_na (by decide)] | rewrite [wr_nk (by decide)] | rewrite [wa_na (by decide)]); first | assumption | exact LK.at (by assumption) _ _ rfl) | exact rfl) ?_
      refine g_callV (q := 25) lX11_184 mX8_become nX8_become rfl (x_become (d + 2) sh _ S X) (by first | assumption | exact S.at _ rfl) rfl rfl shLe.rf (rmOk.mk (by omega) (by first | exact shLe.rf | assumption)) (Nat.le_of_ble_eq_true rfl) dX11_monday_22 rfl rfl (kN fun c1 hp => ?_)
      obtain ⟨X1, k14, e1⟩ := hp
      have P1 : PC c1 β n pl := P.cg (fun x h0 h1 => e1 x (by simp; omega))
      have g1 : dG ct c1 := fun x h0 h1 => e1 x (by simp; omega)
      refine g_iconst (q := 26) dX11_monday_25 rfl ?_
      refine s_istore_n_10_3 (q := 27) dX11_monday_26 rfl rfl rfl ?_
      refine g_iload_n (q := 28) dX11_monday_27 rfl rfl ?_
      refine s_istore_10_4 (q := 30) dX11_monday_28 rfl rfl rfl ?_
      refine g_iconst (q := 31) dX11_monday_30 rfl ?_
      refine s_istore_10_5 (q := 33) dX11_monday_31 rfl rfl rfl ?_
      refine g_forA (α := Sit × Int × Int) (fun i a => [some (.inr (.inr 0)), some (.inl x), some (.inl t), some (.inl a.2.2), some (.inl a.2.1), some (.inl i), none, none, none, none]) (fun i a c => (0 ≤ i ∧ 0 ≤ a.2.2 ∧ a.2.2 ≤ i ∧ (a.2.2 = 0 → a.1 = s)) ∧ dG ct c ∧ CX sh c b β a.1 q N V ∧ PC c β n pl ∧ sitC c 14 s ∧ mRun β (t.toNat - i.toNat) a.1 a.2.1 a.2.2 = mRun β t.toNat s x 0) t ?_ ?_ (i := 0) (a := (s, x, 0)) (by omega) ⟨⟨by omega, by show (0 : Int) ≤ 0; omega, by show (0 : Int) ≤ 0; omega, fun _ => rfl⟩, g1, X1, P1, k14, rfl⟩ (by simp [lsSub])
      · rintro i ⟨u, z, m⟩ c hi ⟨⟨i0, m0, m1, hms⟩, g, X3, P3, k3, hrun⟩ kk
        dsimp only at m0 m1 hms X3 hrun
        have L3 := X3.L
        have hB3 := X3.2.2.1.1
        have hc3 := X3.2.2.1.2.1
        have hdi := drwn_in z
        obtain ⟨r, hr⟩ : ∃ r, t.toNat - i.toNat = r + 1 := ⟨t.toNat - i.toNat - 1, by omega⟩
        have hr2 : t.toNat - (i + 1).toNat = r := by omega
        have hst : mRun β (r + 1) u z m = if whyV β u (drwn z).1 = 0 then mRun β r (doV β u (drwn z).1) (drwn z).2 (m + 1) else mRun β r u (drwn z).2 m := rfl
        rw [hr, hst] at hrun
        have tail : ∀ (deed z' : Int) (o6 o8 o9 : Option gV), deed = (drwn z).1 → z' = (drwn z).2 → G (mkK YX11_monday (d + 4) sh sh Po) 132 [some (.inr (.inr 0)), some (.inl x), some (.inl t), some (.inl m), some (.inl z'), some (.inl i), o6, some (.inl deed), o8, o9] [] sh c := by
          rintro deed z' o6 o8 o9 rfl rfl
          have hwi := whyV_in β u (drwn z).1
          refine g_aload_n (q := 133) dX11_monday_132 rfl rfl ?_
          refine g_aload_n (q := 134) dX11_monday_133 rfl rfl ?_
          refine g_getO (q := 137) (kI := 4) fX11_30 (by first | assumption | exact S.at _ rfl) dX11_monday_134 rfl rfl (by first | assumption | exact L.at _ _ rfl | exact LK.at (by assumption) _ _ rfl | ((repeat first | rewrite [wr_na (by decide)] | rewrite [wr_nk (by decide)] | rewrite [wa_na (by decide)]); first | assumption | exact LK.at (by assumption) _ _ rfl) | exact rfl) ?_
          refine g_iload (q := 139) dX11_monday_137 rfl rfl ?_
          refine g_i2l (q := 140) dX11_monday_139 rfl ?_
          rw [w32_id (x := (drwn z).1) (by omega) (by omega)]
          refine g_callV (q := 143) lX11_229 mX11_tryDeed nX11_tryDeed rfl (x_tryDeed d sh _ S X3 (Or.inl ⟨rfl, rfl⟩) X3.2.1 hB3 hc3 (by unfold i64; omega)) (by first | assumption | exact S.at _ rfl) rfl rfl shLe.rf (rmOk.mk (by omega) (by first | exact shLe.rf | assumption)) (Nat.le_of_ble_eq_true rfl) dX11_monday_140 rfl rfl (kI fun r c4 hp => ?_)
          obtain ⟨rfl, ⟨s', hs', X4⟩, h12, e4⟩ := hp
          have hse : s' = if whyV β u (drwn z).1 = 0 then doV β u (drwn z).1 else u := by
            rcases hs' with h | h
            · exact absurd h.1 (by decide)
            · exact h.2
          have P4 : PC c4 β n pl := P3.cg (fun x h0 h1 => e4.1 x (by simp; omega))
          have g4 : dG ct c4 := g.tr (dE.g e4 (Or.inl rfl))
          have k4 : sitC c4 14 s := k3.cg (e4.1 14 (by decide)) (e4.1 15 (by decide))
          refine g_if_ne (q := 146) (tg := 149) dX11_monday_143 (by decide) rfl (fun c_143 => ?_) (fun c_143 => ?_)
          · have h0 : whyV β u (drwn z).1 ≠ 0 := fun y => c_143 (by rw [y]; rfl)
            rw [if_neg h0] at hrun hse
            subst hse
            refine s_iinc_10_5 (q := 152) dX11_monday_149 rfl rfl rfl ?_
            refine g_goto (q := 33) dX11_monday_152 (by decide) ?_
            refine kk (s', (drwn z).2, m) _ _ (by simp [lsSub]) ⟨⟨by omega, m0, by show m ≤ i + 1; omega, hms⟩, g4, X4, P4, k4, ?_⟩
            rw [hr2]
            exact hrun
          · have h0 : whyV β u (drwn z).1 = 0 := by unfold w32 at c_143; omega
            rw [if_pos h0] at hrun hse
            subst hse
            refine s_iinc_10_3 (q := 149) dX11_monday_146 rfl rfl rfl ?_
            refine s_iinc_10_5 (q := 152) dX11_monday_149 rfl rfl rfl ?_
            refine g_goto (q := 33) dX11_monday_152 (by decide) ?_
            refine kk (doV β u (drwn z).1, (drwn z).2, m + 1) _ _ (by simp [lsSub]) ⟨⟨by omega, by show 0 ≤ m + 1; omega, by show m + 1 ≤ i + 1; omega, fun q => by have q' : m + 1 = 0 := q; omega⟩, g4, X4, P4, k4, ?_⟩
            rw [hr2]
            exact hrun
        have v1 := drwV_in (drw z) (b := 6) (by decide)
        have w1 : w32 (drwV (drw z) 6) = drwV (drw z) 6 := w32_id (by omega) (by omega)
        refine g_iload (q := 35) dX11_monday_33 rfl rfl ?_
        refine g_iload_n (q := 36) dX11_monday_35 rfl rfl ?_
        refine g_icmp_ge (q := 39) (tg := 155) dX11_monday_36 (by decide) rfl (fun c_36 => ?_) (fun c_36 => ?_)
        · exact absurd c_36 (by unfold w32; omega)
        · refine g_iload (q := 41) dX11_monday_39 rfl rfl ?_
          refine g_callS (q := 44) lX11_236 mX11_drawn sX11_drawn rfl (c_drawn (d + 3) sh _) shLe.rf (rmOk.mk (by omega) (by first | exact shLe.rf | assumption)) (Nat.le_of_ble_eq_true rfl) dX11_monday_41 rfl rfl (kI fun r_ c_ hp => ?_)
          obtain ⟨hr, hq⟩ := hp
          replace hr := hr.symm
          replace hq := hq.symm
          subst hr hq
          rw [hdr]
          refine s_istore_10_4 (q := 46) dX11_monday_44 rfl rfl rfl ?_
          refine g_iload (q := 48) dX11_monday_46 rfl rfl ?_
          refine g_bipush (q := 50) dX11_monday_48 (by decide +kernel) rfl ?_
          refine g_iushr (q := 51) dX11_monday_50 rfl ?_
          refine g_bipush (q := 53) dX11_monday_51 (by decide +kernel) rfl ?_
          refine g_irem (q := 54) dX11_monday_53 (by decide) rfl ?_
          rw [hv6]
          refine s_istore_10_6 (q := 56) dX11_monday_54 rfl rfl rfl ?_
          refine g_iconst (q := 57) dX11_monday_56 rfl ?_
          refine s_istore_10_7 (q := 59) dX11_monday_57 rfl rfl rfl ?_
          refine g_iload (q := 61) dX11_monday_59 rfl rfl ?_
          refine g_iconst (q := 62) dX11_monday_61 rfl ?_
          refine g_icmp_ge (q := 65) (tg := 132) dX11_monday_62 (by decide) rfl (fun c_62 => ?_) (fun c_62 => ?_)
          · rw [w1, show w32 5 = 5 from rfl] at c_62
            have hd : drwn z = (-1, drw z) := by
              unfold drwn
              rw [if_pos (by omega)]
            exact tail _ _ _ _ _ (by rw [hd]) (by rw [hd])
          · rw [w1, show w32 5 = 5 from rfl] at c_62
            refine g_iload (q := 67) dX11_monday_65 rfl rfl ?_
            refine g_callS (q := 70) lX11_236 mX11_drawn sX11_drawn rfl (c_drawn (d + 3) sh _) shLe.rf (rmOk.mk (by omega) (by first | exact shLe.rf | assumption)) (Nat.le_of_ble_eq_true rfl) dX11_monday_67 rfl rfl (kI fun r_ c_ hp => ?_)
            obtain ⟨hr, hq⟩ := hp
            replace hr := hr.symm
            replace hq := hq.symm
            subst hr hq
            rw [hdr]
            refine s_istore_10_4 (q := 72) dX11_monday_70 rfl rfl rfl ?_
            refine g_iload (q := 74) dX11_monday_72 rfl rfl ?_
            refine g_bipush (q := 76) dX11_monday_74 (by decide +kernel) rfl ?_
            refine g_iushr (q := 77) dX11_monday_76 rfl ?_
            refine g_bipush (q := 79) dX11_monday_77 (by decide +kernel) rfl ?_
            refine g_irem (q := 80) dX11_monday_79 (by decide) rfl ?_
            rw [hv6]
            refine s_istore_10_8 (q := 82) dX11_monday_80 rfl rfl rfl ?_
            refine g_iload (q := 84) dX11_monday_82 rfl rfl ?_
            refine g_callS (q := 87) lX11_236 mX11_drawn sX11_drawn rfl (c_drawn (d + 3) sh _) shLe.rf (rmOk.mk (by omega) (by first | exact shLe.rf | assumption)) (Nat.le_of_ble_eq_true rfl) dX11_monday_84 rfl rfl (kI fun r_ c_ hp => ?_)
            obtain ⟨hr, hq⟩ := hp
            replace hr := hr.symm
            replace hq := hq.symm
            subst hr hq
            rw [hdr]
            refine s_istore_10_4 (q := 89) dX11_monday_87 rfl rfl rfl ?_
            refine g_iload (q := 91) dX11_monday_89 rfl rfl ?_
            refine g_bipush (q := 93) dX11_monday_91 (by decide +kernel) rfl ?_
            refine g_iushr (q := 94) dX11_monday_93 rfl ?_
            refine s_istore_10_9 (q := 96) dX11_monday_94 rfl rfl rfl ?_
            refine g_iload (q := 98) dX11_monday_96 rfl rfl ?_
            refine g_iconst (q := 99) dX11_monday_98 rfl ?_
            refine g_icmp_ge (q := 102) (tg := 116) dX11_monday_99 (by decide) rfl (fun c_99 => ?_) (fun c_99 => ?_)
            · rw [w1, show w32 4 = 4 from rfl] at c_99
              refine g_bipush (q := 118) dX11_monday_116 (by decide +kernel) rfl ?_
              refine g_bipush (q := 120) dX11_monday_118 (by decide +kernel) rfl ?_
              refine g_iload (q := 122) dX11_monday_120 rfl rfl ?_
              refine g_imul (q := 123) dX11_monday_122 rfl ?_
              refine g_iadd (q := 124) dX11_monday_123 rfl ?_
              refine g_iload (q := 126) dX11_monday_124 rfl rfl ?_
              refine g_bipush (q := 128) dX11_monday_126 (by decide +kernel) rfl ?_
              refine g_irem (q := 129) dX11_monday_128 (by decide) rfl ?_
              rw [hv10]
              refine g_iadd (q := 130) dX11_monday_129 rfl ?_
              refine s_istore_10_7 (q := 132) dX11_monday_130 rfl rfl rfl ?_
              have hd : drwn z = (100 + 10 * drwV (drw (drw z)) 6 + drwV (drw (drw (drw z))) 10, drw (drw (drw z))) := by
                unfold drwn
                rw [if_neg (by omega), if_neg (by omega)]
              exact tail _ _ _ _ _ (by rw [hd]) (by rw [hd])
            · rw [w1, show w32 4 = 4 from rfl] at c_99
              refine g_bipush (q := 104) dX11_monday_102 (by decide +kernel) rfl ?_
              refine g_iload (q := 106) dX11_monday_104 rfl rfl ?_
              refine g_imul (q := 107) dX11_monday_106 rfl ?_
              refine g_iload (q := 109) dX11_monday_107 rfl rfl ?_
              refine g_bipush (q := 111) dX11_monday_109 (by decide +kernel) rfl ?_
              refine g_irem (q := 112) dX11_monday_111 (by decide) rfl ?_
              rw [hv8]
              refine g_iadd (q := 113) dX11_monday_112 rfl ?_
              refine g_goto (q := 130) dX11_monday_113 (by decide) ?_
              refine s_istore_10_7 (q := 132) dX11_monday_130 rfl rfl rfl ?_
              have hd : drwn z = (10 * drwV (drw (drw z)) 6 + drwV (drw (drw (drw z))) 8, drw (drw (drw z))) := by
                unfold drwn
                rw [if_neg (by omega), if_pos (by omega)]
              exact tail _ _ _ _ _ (by rw [hd]) (by rw [hd])
      · rintro ⟨u, z, m⟩ c ⟨⟨i0, m0, m1, hms⟩, g, X3, P3, k3, hrun⟩
        dsimp only at m0 m1 hms X3 hrun
        have L3 := X3.L
        rw [show t.toNat - t.toNat = 0 by omega] at hrun
        have hr1 : (mRun β t.toNat s x 0).1 = u := by rw [← hrun]; rfl
        have hr2 : (mRun β t.toNat s x 0).2 = m := by rw [← hrun]; rfl
        rw [hr1, hr2] at hP
        refine g_iload (q := 35) dX11_monday_33 rfl rfl ?_
        refine g_iload_n (q := 36) dX11_monday_35 rfl rfl ?_
        refine g_icmp_ge (q := 39) (tg := 155) dX11_monday_36 (by decide) rfl (fun c_36 => ?_) (fun c_36 => ?_)
        · refine g_iload_n (q := 156) dX11_monday_155 rfl rfl ?_
          refine g_if_le (q := 159) (tg := 170) dX11_monday_156 (by decide) rfl (fun c_156 => ?_) (fun c_156 => ?_)
          · dsimp only at c_156
            have hm0 : m = 0 := by unfold w32 at c_156; omega
            have hus := hms hm0
            subst hus
            refine g_iload_n (q := 171) dX11_monday_170 rfl rfl ?_
            refine g_ireturn dX11_monday_171 rfl ?_
            rw [← hP]
            exact ⟨_, rfl, Or.inr ⟨h14, rfl, Or.inl ⟨hm0, X3, P3⟩⟩, g⟩
          · dsimp only at c_156
            have hmpos : 0 < m := by unfold w32 at c_156; omega
            refine g_aload_n (q := 160) dX11_monday_159 rfl rfl ?_
            refine g_getO (q := 163) (kI := 6) fX11_40 (by first | assumption | exact S.at _ rfl) dX11_monday_160 rfl rfl (by first | assumption | exact L.at _ _ rfl | exact LK.at (by assumption) _ _ rfl | ((repeat first | rewrite [wr_na (by decide)] | rewrite [wr_nk (by decide)] | rewrite [wa_na (by decide)]); first | assumption | exact LK.at (by assumption) _ _ rfl) | exact rfl) ?_
            refine g_aload_n (q := 164) dX11_monday_163 rfl rfl ?_
            refine g_getO (q := 167) (kI := 5) fX11_34 (by first | assumption | exact S.at _ rfl) dX11_monday_164 rfl rfl (by first | assumption | exact L.at _ _ rfl | exact LK.at (by assumption) _ _ rfl | ((repeat first | rewrite [wr_na (by decide)] | rewrite [wr_nk (by decide)] | rewrite [wa_na (by decide)]); first | assumption | exact LK.at (by assumption) _ _ rfl) | exact rfl) ?_
            refine g_callV (q := 170) lX11_192 mX5_add nX5_add rfl (x_pileAdd (d + 1) sh _ S X3 P3 (Or.inr rfl) k3 hB hcn) (by first | assumption | exact S.at _ rfl) rfl rfl shLe.rf (rmOk.mk (by omega) (by first | exact shLe.rf | assumption)) (Nat.le_of_ble_eq_true rfl) dX11_monday_167 rfl rfl (kN fun c4 hp => ?_)
            obtain ⟨X4, P4, e4⟩ := hp
            refine g_iload_n (q := 171) dX11_monday_170 rfl rfl ?_
            refine g_ireturn dX11_monday_171 rfl ?_
            rw [← hP]
            exact ⟨_, rfl, Or.inr ⟨h14, rfl, Or.inr ⟨hmpos, X4, P4⟩⟩, g.tr (fun x h0 h1 => e4 x (by omega))⟩
        · exact absurd c_36 (Int.lt_irrefl _)
    · refine bad ?_
      rw [wt, show w32 40 = 40 from rfl] at c_8
      omega
end
