/-! the reference reads sayings, laws, any line -/
section
variable (d : Nat) (sh : mbSh) (ct : mbCt) {f K Pl E : Int → Int} {n T : Int} {a : PS × BS}
theorem MR.cool {σ : PS} (M : MR ct f n T K Pl E σ) : (6 ≤ kR (K σ.1) ∧ kR (K σ.1) ≤ 9) ↔ (134 ≤ K σ.1 ∧ K σ.1 ≤ 137) := by
  have e6 := kR_iff M.kv (x := 6) (y := 134) (by decide)
  have e7 := kR_iff M.kv (x := 7) (y := 135) (by decide)
  have e8 := kR_iff M.kv (x := 8) (y := 136) (by decide)
  have e9 := kR_iff M.kv (x := 9) (y := 137) (by decide)
  omega
theorem tw_readSaying (S : SH sh) (B : MB ct f n T K Pl E a) (hI : bkRi T a) (ht : tkP K a.1 = 133) : Mt YX12_readSaying (d + 7) [.inr (.inr 92)] sh sh ct (pN fun c => MB c f n T K Pl E (lineB T K Pl a) ∧ mlF ct c) := by
  obtain ⟨M, hF⟩ := B
  have L := M.1
  have hg := hI.1
  have hw := tk_w (K := K) (σ := a.1) (by omega)
  have F := hF hw
  have R := hI.2 hw
  have m01 := R.1.2.2.2.1
  have e1 : ct 96 2 = a.2.1 3 := F.1.2.2.1
  have s96 : shA sh 96 = some (20, 1040) := S.at _ rfl
  have hE : lineB T K Pl a = (if 8 ≤ a.2.1 3 then (failP K Pl 4 a.1, a.2) else ((syL T K Pl (a.2.1 3) T.toNat (stepP T a.1, a.2.2.2)).1, upP a.2.1 3 (a.2.1 3 + 1), a.2.2.1, (syL T K Pl (a.2.1 3) T.toNat (stepP T a.1, a.2.2.2)).2)) := by unfold lineB; rw [if_neg (by omega), if_pos ht]
  generalize hPo : (pN fun c => MB c f n T K Pl E (lineB T K Pl a) ∧ mlF ct c) = Po
  generalize hm : a.2.1 3 = m at m01 e1 hE
  refine Mt.of rfl (Nat.le_of_ble_eq_true rfl) ?_
  show G _ 0 [some (.inr (.inr 92)), none, none, none] [] sh ct
  refine g_aload_n (q := 1) dX12_readSaying_0 rfl rfl ?_
  refine g_getA (q := 4) (kI := 4) fX12_24 (by first | assumption | exact S.at _ rfl) dX12_readSaying_1 rfl rfl (by first | assumption | exact L.at _ _ rfl | exact LK.at (by assumption) _ _ rfl | ((repeat first | rewrite [wr_na (by decide)] | rewrite [wr_nk (by decide)] | rewrite [wa_na (by decide)]); first | assumption | exact LK.at (by assumption) _ _ rfl) | exact rfl) ?_
  refine g_iconst (q := 5) dX12_readSaying_4 rfl ?_
  refine g_iaload (q := 6) (by first | assumption | exact S.at _ rfl) (by omega) (by omega) (by omega) dX12_readSaying_5 rfl ?_
  rw [e1]
  refine s_istore_n_4_1 (q := 7) dX12_readSaying_6 rfl rfl rfl ?_
  refine g_iload_n (q := 8) dX12_readSaying_7 rfl rfl ?_
  refine g_bipush (q := 10) dX12_readSaying_8 (by decide +kernel) rfl ?_
  refine g_icmp_ne (q := 13) (tg := 18) dX12_readSaying_10 (by decide) rfl (fun c_10 => ?_) (fun c_10 => ?_)
  · rw [w32_id (x := m) (by omega) (by omega), show w32 8 = 8 from rfl] at c_10
    rw [if_neg (by omega)] at hE
    refine g_aload_n (q := 19) dX12_readSaying_18 rfl rfl ?_
    refine g_getI (q := 22) (kI := 11) fX12_134 (by first | assumption | exact S.at _ rfl) dX12_readSaying_19 rfl rfl ?_
    rw [M.w, hw]
    refine g_if_eq (q := 25) (tg := 26) dX12_readSaying_22 (by decide) rfl (fun c_22 => ?_) (fun c_22 => ?_)
    · refine g_aload_n (q := 27) dX12_readSaying_26 rfl rfl ?_
      refine g_callV (q := 30) lX12_143 mX12_next nX12_next rfl (tw_nextM 0 sh _ S M hg (by omega) (by omega) (by omega)) (by first | assumption | exact S.at _ rfl) rfl rfl shLe.rf (rmOk.mk (by omega) (by first | exact shLe.rf | assumption)) (Nat.le_of_ble_eq_true rfl) dX12_readSaying_27 rfl rfl (kN fun c1 hp => ?_)
      obtain ⟨M1, f1⟩ := hp
      have g1 := (stepP_gd hg).1
      generalize hRR : syL T K Pl m T.toNat (stepP T a.1, a.2.2.2) = RR at hE
      have hne : ∀ j, j ≠ m → RR.2.1 j = a.2.2.2.1 j ∧ RR.2.2 j = a.2.2.2.2 j := fun j hj => by rw [← hRR]; exact syL_ne _ _ j hj
      have exit : ∀ c, MR c f n T K Pl E RR.1 → (∀ j, 0 ≤ j → j < 139 → j ≠ 12 + m → j ≠ 20 + m → c 96 j = ct 96 j) → (RR.1.2.1 = 0 → c 96 (12 + m) = RR.2.1 m ∧ c 96 (20 + m) = RR.2.2 m) → mlF ct c → G (mkK YX12_readSaying (d + 7) sh sh Po) 112 [some (.inr (.inr 92)), some (.inl m), none, none] [] sh c := by
        intro c M2 e2 h2 f2
        have L2 := M2.1
        refine g_aload_n (q := 113) dX12_readSaying_112 rfl rfl ?_
        refine g_getI (q := 116) (kI := 11) fX12_134 (by first | assumption | exact S.at _ rfl) dX12_readSaying_113 rfl rfl ?_
        rw [M2.w]
        refine g_if_ne (q := 119) (tg := 129) dX12_readSaying_116 (by decide) rfl (fun c_116 => ?_) (fun c_116 => ?_)
        · have hw2 : ¬ RR.1.2.1 = 0 := fun z => c_116 (M2.wz.mpr z)
          refine g_return dX12_readSaying_129 rfl ?_
          rw [← hPo, hE]
          exact ⟨rfl, ⟨M2, fun z => absurd z hw2⟩, f2⟩
        · have hw2 : RR.1.2.1 = 0 := M2.wz.mp c_116
          refine g_aload_n (q := 120) dX12_readSaying_119 rfl rfl ?_
          refine g_getA (q := 123) (kI := 4) fX12_24 (by first | assumption | exact S.at _ rfl) dX12_readSaying_120 rfl rfl (by first | assumption | exact L.at _ _ rfl | exact LK.at (by assumption) _ _ rfl | ((repeat first | rewrite [wr_na (by decide)] | rewrite [wr_nk (by decide)] | rewrite [wa_na (by decide)]); first | assumption | exact LK.at (by assumption) _ _ rfl) | exact rfl) ?_
          refine g_iconst (q := 124) dX12_readSaying_123 rfl ?_
          refine g_dup2 (q := 125) dX12_readSaying_124 rfl rfl rfl ?_
          refine g_iaload (q := 126) (by first | assumption | exact S.at _ rfl) (by omega) (by omega) (by omega) dX12_readSaying_125 rfl ?_
          refine g_iconst (q := 127) dX12_readSaying_126 rfl ?_
          refine g_iadd (q := 128) dX12_readSaying_127 rfl ?_
          refine g_iastore (q := 129) (by first | assumption | exact S.at _ rfl) (by omega) (by omega) (by omega) dX12_readSaying_128 rfl ?_
          refine g_return dX12_readSaying_129 rfl ?_
          rw [← hPo, hE]
          refine ⟨rfl, ⟨M2.w96 (by decide), fun _ => ?_⟩, f2.tr mlF.w96⟩
          rw [e2 2 (by decide) (by decide) (by omega) (by omega), e1]
          exact (frB.sy F (by omega) (by omega) e2 (h2 hw2).1 (h2 hw2).2 hne).nu (by decide)
      refine g_wh (α := PS × (Int → Int) × (Int → Int)) [some (.inr (.inr 92)), some (.inl m), none, none] (fun N b c => MR c f n T K Pl E b.1 ∧ gd T b.1 ∧ (∀ j, 0 ≤ j → j < 139 → j ≠ 12 + m → j ≠ 20 + m → c 96 j = ct 96 j) ∧ (b.1.2.1 = 0 → c 96 (12 + m) = b.2.1 m ∧ c 96 (20 + m) = b.2.2 m) ∧ mlF ct c ∧ (b.1.2.1 = 0 → T ≤ b.1.1 + N) ∧ syL T K Pl m N b = RR) ?_ T.toNat (stepP T a.1, a.2.2.2) _ _ ⟨M1, g1, fun j _ hj _ _ => f1.2.1 j hj, fun _ => ?_, f1.ml, fun _ => by have := g1.1.1; dsimp only; omega, hRR⟩ (lsSub_rf _)
      · rintro N b c ⟨M2, g2, e2, h2, f2, hN, hb⟩ kk
        have L2 := M2.1
        refine g_aload_n (q := 31) dX12_readSaying_30 rfl rfl ?_
        refine g_getI (q := 34) (kI := 11) fX12_134 (by first | assumption | exact S.at _ rfl) dX12_readSaying_31 rfl rfl ?_
        rw [M2.w]
        refine g_if_ne (q := 37) (tg := 112) dX12_readSaying_34 (by decide) rfl (fun c_34 => ?_) (fun c_34 => ?_)
        · have hw2 : ¬ b.1.2.1 = 0 := fun z => c_34 (M2.wz.mpr z)
          rw [syL_stop (by rw [tk_stop hw2]; decide)] at hb
          subst hb
          exact exit c M2 e2 h2 f2
        · have hw2 : b.1.2.1 = 0 := M2.wz.mp c_34
          have hk2 := tk_go (K := K) hw2
          have hcool := M2.cool
          have hkb := (kR_23 M2.kv).2
          obtain ⟨N', rfl⟩ : ∃ N', N = N' + 1 := ⟨N - 1, by have := hN hw2; have := g2.1.2; omega⟩
          refine g_aload_n (q := 38) dX12_readSaying_37 rfl rfl ?_
          refine g_getI (q := 41) (kI := 9) fX12_116 (by first | assumption | exact S.at _ rfl) dX12_readSaying_38 rfl rfl ?_
          rw [M2.ki]
          refine g_i2l (q := 42) dX12_readSaying_41 rfl ?_
          refine g_ldc2 (q := 45) dX12_readSaying_42 kX12_191 rfl ?_
          refine g_ldc2 (q := 48) dX12_readSaying_45 kX12_193 rfl ?_
          rw [w32_id (x := kR (K b.1.1)) (by omega) (by omega)]
          refine g_callS (q := 51) lX12_150 mX12_within sX12_within rfl (tw_within 0 sh _) shLe.rf (rmOk.mk (by omega) (by first | exact shLe.rf | assumption)) (Nat.le_of_ble_eq_true rfl) dX12_readSaying_48 rfl rfl (kI fun r_ c_ hp => ?_)
          obtain ⟨hr, hq⟩ := hp
          replace hr := hr.symm
          replace hq := hq.symm
          subst hr hq
          refine g_if_eq (q := 54) (tg := 112) dX12_readSaying_51 (by decide) rfl (fun c_51 => ?_) (fun c_51 => ?_)
          · have h51 := wb0.mp c_51
            rw [w64_id (x := kR (K b.1.1)) (by omega) (by omega), show w64 6 = 6 from rfl, show w64 9 = 9 from rfl] at h51
            have hno : ¬ (134 ≤ tkP K b.1 ∧ tkP K b.1 ≤ 137) := by
              rw [hk2]
              exact fun z => h51 (hcool.mpr z)
            rw [syL_stop hno] at hb
            subst hb
            exact exit _ M2 e2 h2 f2
          · have h51 := wbn.mp c_51
            rw [w64_id (x := kR (K b.1.1)) (by omega) (by omega), show w64 6 = 6 from rfl, show w64 9 = 9 from rfl] at h51
            have hin : 134 ≤ K b.1.1 ∧ K b.1.1 ≤ 137 := hcool.mp h51
            have t1 : tkP K b.1 ≠ 203 := by omega
            have t2 : tkP K b.1 ≠ 201 := by omega
            have t3 : tkP K b.1 ≠ 202 := by omega
            have i6 := kR_iff M2.kv (x := 6) (y := 134) (by decide)
            have i7 := kR_iff M2.kv (x := 7) (y := 135) (by decide)
            have i8 := kR_iff M2.kv (x := 8) (y := 136) (by decide)
            have i9 := kR_iff M2.kv (x := 9) (y := 137) (by decide)
            have g3 := (stepP_gd g2).1
            have st := step_go M2.kd.1 g2 t1 t2 t3
            have hs1 : (stepP T b.1).1 = b.1.1 + 1 := by rw [st.2.2]
            obtain ⟨nc, -⟩ := numNC (K := K) (Pl := Pl) (most := 9) g3
            rw [syL_go (by rw [hk2]; exact hin)] at hb
            refine g_aload_n (q := 55) dX12_readSaying_54 rfl rfl ?_
            refine g_getI (q := 58) (kI := 9) fX12_116 (by first | assumption | exact S.at _ rfl) dX12_readSaying_55 rfl rfl ?_
            rw [M2.ki]
            refine s_istore_n_4_2 (q := 59) dX12_readSaying_58 rfl rfl rfl ?_
            refine g_aload_n (q := 60) dX12_readSaying_59 rfl rfl ?_
            refine g_callV (q := 63) lX12_143 mX12_next nX12_next rfl (tw_nextM 0 sh _ S M2 g2 t1 t2 t3) (by first | assumption | exact S.at _ rfl) rfl rfl shLe.rf (rmOk.mk (by omega) (by first | exact shLe.rf | assumption)) (Nat.le_of_ble_eq_true rfl) dX12_readSaying_60 rfl rfl (kN fun c3 hp => ?_)
            obtain ⟨M3, f3⟩ := hp
            refine g_aload_n (q := 64) dX12_readSaying_63 rfl rfl ?_
            refine g_iconst (q := 65) dX12_readSaying_64 rfl ?_
            refine g_bipush (q := 67) dX12_readSaying_65 (by decide +kernel) rfl ?_
            refine g_callV (q := 70) lX12_187 mX12_takes nX12_takes rfl (tw_takes 0 sh _ S M3 g3 (most := 9) (by decide)) (by first | assumption | exact S.at _ rfl) rfl rfl shLe.rf (rmOk.mk (by omega) (by first | exact shLe.rf | assumption)) (Nat.le_of_ble_eq_true rfl) dX12_readSaying_67 rfl rfl (kI fun v c4 hp => ?_)
            obtain ⟨hv, M4, f4⟩ := hp
            have L4 := M4.1
            have e4 : ∀ j, 0 ≤ j → j < 139 → c4 96 j = c 96 j := fun j _ j1 => (f4.2.1 j j1).trans (f3.2.1 j j1)
            have fin : ∀ p w, (p = 12 ∨ p = 20) → (∀ z : (numP T K Pl 9 (stepP T b.1)).2.2.1 = 0, (p = 12 → syT (tkP K b.1) m (numP T K Pl 9 (stepP T b.1)).1 b.2.1 m = w ∧ syH (tkP K b.1) m (numP T K Pl 9 (stepP T b.1)).1 b.2.2 m = b.2.2 m) ∧ (p = 20 → syT (tkP K b.1) m (numP T K Pl 9 (stepP T b.1)).1 b.2.1 m = b.2.1 m ∧ syH (tkP K b.1) m (numP T K Pl 9 (stepP T b.1)).1 b.2.2 m = w)) → G (mkK YX12_readSaying (d + 7) sh sh Po) 108 [some (.inr (.inr 92)), some (.inl m), some (.inl (kR (K b.1.1))), some (.inl v)] [.inl w, .inl (p + m), .inr (.inr 96)] sh c4 := by
              intro p w hp hz
              refine g_iastore (q := 109) (by first | assumption | exact S.at _ rfl) (by omega) (by omega) (by omega) dX12_readSaying_108 rfl ?_
              refine g_goto (q := 30) dX12_readSaying_109 (by decide) ?_
              refine kk N' ((numP T K Pl 9 (stepP T b.1)).2, syT (tkP K b.1) m (numP T K Pl 9 (stepP T b.1)).1 b.2.1, syH (tkP K b.1) m (numP T K Pl 9 (stepP T b.1)).1 b.2.2) _ _ (by omega) ⟨rfl, rfl, trivial⟩ ⟨M4.w96 (by omega), nc.1, fun j j0 j1 j2 j3 => ?_, fun z => ?_, ((f2.tr f3.ml).tr f4.ml).tr mlF.w96, fun z => ?_, hb⟩
              · rw [wr_nk (by omega), e4 j j0 j1]
                exact e2 j j0 j1 j2 j3
              · obtain ⟨z1, z2⟩ := hz z
                obtain ⟨o1, o2⟩ := h2 hw2
                dsimp only
                rcases hp with rfl | rfl
                · rw [wr_eq, wr_nk (by omega), (z1 rfl).1, (z1 rfl).2, e4 _ (by omega) (by omega)]
                  exact ⟨rfl, o2⟩
                · rw [wr_eq, wr_nk (by omega), (z2 rfl).1, (z2 rfl).2, e4 _ (by omega) (by omega)]
                  exact ⟨o1, rfl⟩
              · have := hN hw2
                have := nc.2.1
                dsimp only
                omega
            have wk : w32 (kR (K b.1.1)) = kR (K b.1.1) := w32_id (by omega) (by omega)
            rw [hk2] at fin
            have T6 : ∀ v g, syT 134 m v g m = v := fun v g => by unfold syT; rw [if_pos rfl, upP_eq]
            have T7 : ∀ v g, syT 135 m v g m = -v := fun v g => by unfold syT; rw [if_neg (by decide), if_pos rfl, upP_eq]
            have T8 : ∀ v g, syT 136 m v g m = g m := fun v g => by unfold syT; rw [if_neg (by decide), if_neg (by decide)]
            have T9 : ∀ v g, syT 137 m v g m = g m := fun v g => by unfold syT; rw [if_neg (by decide), if_neg (by decide)]
            have H6 : ∀ v g, syH 134 m v g m = g m := fun v g => by unfold syH; rw [if_neg (by decide), if_neg (by decide)]
            have H7 : ∀ v g, syH 135 m v g m = g m := fun v g => by unfold syH; rw [if_neg (by decide), if_neg (by decide)]
            have H8 : ∀ v g, syH 136 m v g m = v := fun v g => by unfold syH; rw [if_pos rfl, upP_eq]
            have H9 : ∀ v g, syH 137 m v g m = -v := fun v g => by unfold syH; rw [if_neg (by decide), if_pos rfl, upP_eq]
            refine s_istore_n_4_3 (q := 71) dX12_readSaying_70 rfl rfl rfl ?_
            refine g_aload_n (q := 72) dX12_readSaying_71 rfl rfl ?_
            refine g_getA (q := 75) (kI := 4) fX12_24 (by first | assumption | exact S.at _ rfl) dX12_readSaying_72 rfl rfl (by first | assumption | exact L.at _ _ rfl | exact LK.at (by assumption) _ _ rfl | ((repeat first | rewrite [wr_na (by decide)] | rewrite [wr_nk (by decide)] | rewrite [wa_na (by decide)]); first | assumption | exact LK.at (by assumption) _ _ rfl) | exact rfl) ?_
            refine g_iload_n (q := 76) dX12_readSaying_75 rfl rfl ?_
            refine g_bipush (q := 78) dX12_readSaying_76 (by decide +kernel) rfl ?_
            refine g_icmp_ge (q := 81) (tg := 86) dX12_readSaying_78 (by decide) rfl (fun c_78 => ?_) (fun c_78 => ?_)
            · rw [wk, show w32 8 = 8 from rfl] at c_78
              refine g_bipush (q := 88) dX12_readSaying_86 (by decide +kernel) rfl ?_
              refine g_iload_n (q := 89) dX12_readSaying_88 rfl rfl ?_
              refine g_iadd (q := 90) dX12_readSaying_89 rfl ?_
              refine g_iload_n (q := 91) dX12_readSaying_90 rfl rfl ?_
              refine g_bipush (q := 93) dX12_readSaying_91 (by decide +kernel) rfl ?_
              refine g_icmp_eq (q := 96) (tg := 102) dX12_readSaying_93 (by decide) rfl (fun c_93 => ?_) (fun c_93 => ?_)
              · exact absurd c_93 (by rw [wk, show w32 6 = 6 from rfl]; omega)
              · refine g_iload_n (q := 97) dX12_readSaying_96 rfl rfl ?_
                refine g_bipush (q := 99) dX12_readSaying_97 (by decide +kernel) rfl ?_
                refine g_icmp_ne (q := 102) (tg := 106) dX12_readSaying_99 (by decide) rfl (fun c_99 => ?_) (fun c_99 => ?_)
                · rw [wk, show w32 8 = 8 from rfl] at c_99
                  have h9 : K b.1.1 = 137 := by omega
                  refine g_iload_n (q := 107) dX12_readSaying_106 rfl rfl ?_
                  refine g_ineg (q := 108) dX12_readSaying_107 rfl ?_
                  refine fin 20 (-v) (Or.inr rfl) (fun z => ⟨fun h => absurd h (by decide), fun _ => ?_⟩)
                  rw [h9, T9, H9, hv z]
                  exact ⟨rfl, rfl⟩
                · rw [wk, show w32 8 = 8 from rfl] at c_99
                  have h9 : K b.1.1 = 136 := by omega
                  refine g_iload_n (q := 103) dX12_readSaying_102 rfl rfl ?_
                  refine g_goto (q := 108) dX12_readSaying_103 (by decide) ?_
                  refine fin 20 v (Or.inr rfl) (fun z => ⟨fun h => absurd h (by decide), fun _ => ?_⟩)
                  rw [h9, T8, H8, hv z]
                  exact ⟨rfl, rfl⟩
            · rw [wk, show w32 8 = 8 from rfl] at c_78
              refine g_bipush (q := 83) dX12_readSaying_81 (by decide +kernel) rfl ?_
              refine g_goto (q := 88) dX12_readSaying_83 (by decide) ?_
              refine g_iload_n (q := 89) dX12_readSaying_88 rfl rfl ?_
              refine g_iadd (q := 90) dX12_readSaying_89 rfl ?_
              refine g_iload_n (q := 91) dX12_readSaying_90 rfl rfl ?_
              refine g_bipush (q := 93) dX12_readSaying_91 (by decide +kernel) rfl ?_
              refine g_icmp_eq (q := 96) (tg := 102) dX12_readSaying_93 (by decide) rfl (fun c_93 => ?_) (fun c_93 => ?_)
              · rw [wk, show w32 6 = 6 from rfl] at c_93
                have h9 : K b.1.1 = 134 := by omega
                refine g_iload_n (q := 103) dX12_readSaying_102 rfl rfl ?_
                refine g_goto (q := 108) dX12_readSaying_103 (by decide) ?_
                refine fin 12 v (Or.inl rfl) (fun z => ⟨fun _ => ?_, fun h => absurd h (by decide)⟩)
                rw [h9, T6, H6, hv z]
                exact ⟨rfl, rfl⟩
              · rw [wk, show w32 6 = 6 from rfl] at c_93
                refine g_iload_n (q := 97) dX12_readSaying_96 rfl rfl ?_
                refine g_bipush (q := 99) dX12_readSaying_97 (by decide +kernel) rfl ?_
                refine g_icmp_ne (q := 102) (tg := 106) dX12_readSaying_99 (by decide) rfl (fun c_99 => ?_) (fun c_99 => ?_)
                · have h9 : K b.1.1 = 135 := by omega
                  refine g_iload_n (q := 107) dX12_readSaying_106 rfl rfl ?_
                  refine g_ineg (q := 108) dX12_readSaying_107 rfl ?_
                  refine fin 12 (-v) (Or.inl rfl) (fun z => ⟨fun _ => ?_, fun h => absurd h (by decide)⟩)
                  rw [h9, T7, H7, hv z]
                  exact ⟨rfl, rfl⟩
                · exact absurd c_99 (by rw [wk, show w32 8 = 8 from rfl]; omega)
      · dsimp only
        rw [f1.2.1 _ (by omega), f1.2.1 _ (by omega)]
        exact F.2.2.1 m (by omega) (by omega)
    · exact absurd rfl c_22
  · rw [w32_id (x := m) (by omega) (by omega), show w32 8 = 8 from rfl] at c_10
    rw [if_pos (by omega)] at hE
    refine g_aload_n (q := 14) dX12_readSaying_13 rfl rfl ?_
    refine g_iconst (q := 15) dX12_readSaying_14 rfl ?_
    refine g_callV (q := 18) lX12_146 mX12_fails nX12_fails rfl (tw_fails 0 sh _ S M (k := 4) (by decide)) (by first | assumption | exact S.at _ rfl) rfl rfl shLe.rf (rmOk.mk (by omega) (by first | exact shLe.rf | assumption)) (Nat.le_of_ble_eq_true rfl) dX12_readSaying_15 rfl rfl (kN fun c1 hp => ?_)
    obtain ⟨M1, f1⟩ := hp
    have L1 := M1.1
    have hw2 : ¬ (failP K Pl 4 a.1).2.1 = 0 := failP_w (by decide)
    refine g_aload_n (q := 19) dX12_readSaying_18 rfl rfl ?_
    refine g_getI (q := 22) (kI := 11) fX12_134 (by first | assumption | exact S.at _ rfl) dX12_readSaying_19 rfl rfl ?_
    rw [M1.w]
    refine g_if_eq (q := 25) (tg := 26) dX12_readSaying_22 (by decide) rfl (fun c_22 => ?_) (fun c_22 => ?_)
    · exact absurd (M1.wz.mp c_22) hw2
    · refine g_return dX12_readSaying_25 rfl ?_
      rw [← hPo, hE]
      exact ⟨rfl, ⟨M1, fun z => absurd z hw2⟩, f1.ml⟩
end
