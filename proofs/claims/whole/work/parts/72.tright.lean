/-! the reference: the row that is right, how far back -/
theorem br_split {Z i : Nat} (hi : i < 48) (h : Z.testBit i = true) : ∃ post, brL Z 48 = brL Z i ++ i :: post := by
  obtain ⟨post, e⟩ := rng_split (fun i => Z.testBit i) id h 48 hi
  rw [List.map_id, List.map_id] at e
  exact ⟨post, e⟩
section
variable (d : Nat) (sh : mbSh) (ct : mbCt) {β : Bk} {mk : Int → Int} {st : Int} {sz bt : Int → Int} {vl : Int → Int → Int}
theorem eBy_hit {tone x v : Int} {tl : Int → Int} {n k : Nat} (hB : bkB β) (hk : k < n) (he : eW 0 β mk tone tl n (n - k) x < 100) (v0 : 0 ≤ v) (hl : ldP β mk (-1) (-1) 9 x v) (hv : eBy β mk tone tl n k x v = nv (eW 0 β mk tone tl n (n - k) x)) (hno : ∀ v', 0 ≤ v' → v' < v → ldP β mk (-1) (-1) 9 x v' → eBy β mk tone tl n k x v' ≠ nv (eW 0 β mk tone tl n (n - k) x)) : eW 0 β mk tone tl n (n - (k + 1)) (nxB β x (v / 10) (v % 10)) < 100 ∧ (∀ i w, ((i = 0 ∧ w = v) ∨ ∃ i', i = i' + 1 ∧ RtM 0 β mk tone tl n (n - (k + 1)) (nxB β x (v / 10) (v % 10)) i' w) → RtM 0 β mk tone tl n (n - k) x i w) := by
  obtain ⟨i, hi, rfl, e1, e2⟩ := ld_in hB v0 hl
  have hmem := (br_ld hB x (tl k) i).mpr ⟨hi, hl⟩
  have hin0 := eW_in (s := 0) (β := β) (mk := mk) (tone := tone) (tl := tl) (n := n) (n - k) x
  have nvi : ∀ j : Nat, j < 48 → (eBy β mk tone tl n k x (mnt j) = nv (eW 0 β mk tone tl n (n - k) x) ↔ eW 0 β mk tone tl n (n - (k + 1)) (nxB β x (j / 8 : Nat) (j % 8 : Nat)) + cost 0 (tl k) j = eW 0 β mk tone tl n (n - k) x) := by
    intro j hj
    rw [eBy_mnt hj]
    have a := eW_in (s := 0) (β := β) (mk := mk) (tone := tone) (tl := tl) (n := n) (n - (k + 1)) (nxB β x (j / 8 : Nat) (j % 8 : Nat))
    have b := cost_in 0 (tl k) j
    have h1 := nv_lt (a := eW 0 β mk tone tl n (n - (k + 1)) (nxB β x (j / 8 : Nat) (j % 8 : Nat)) + cost 0 (tl k) j) (b := eW 0 β mk tone tl n (n - k) x) (by omega) (by omega)
    have h2 := nv_lt (b := eW 0 β mk tone tl n (n - (k + 1)) (nxB β x (j / 8 : Nat) (j % 8 : Nat)) + cost 0 (tl k) j) (a := eW 0 β mk tone tl n (n - k) x) (by omega) (by omega)
    omega
  have hex := (nvi i hi).mp hv
  have hc := cost_in 0 (tl k) i
  rw [← e1, ← e2]
  refine ⟨by omega, fun j w hj => ?_⟩
  obtain ⟨r, hr⟩ : ∃ r, n - k = r + 1 := ⟨n - k - 1, by omega⟩
  have hr2 : n - (k + 1) = r := by omega
  rw [hr2] at hj hex nvi
  rw [hr] at hex nvi hno ⊢
  obtain ⟨post, hs⟩ := br_split (Z := alwN 0 β mk x (tl k)) hi (brL_mem.mp hmem).2
  have hnk : n - (r + 1) = k := by omega
  show ∃ pre k' post, brL (alwN 0 β mk x (tl ((n - (r + 1) : Nat) : Int))) 48 = pre ++ k' :: post ∧ _ ∧ _ ∧ _
  rw [hnk]
  refine ⟨_, i, post, hs, hex, fun k' hk' => ?_, hj⟩
  obtain ⟨h1, h2⟩ := brL_mem.mp hk'
  have h3 : k' < 48 := by omega
  obtain ⟨a1, a2, -, -⟩ := mnt_in h3
  have hl' := ((br_ld (mk := mk) hB x (tl k) k').mp (brL_mem.mpr ⟨h3, h2⟩)).2
  exact fun z => hno (mnt k') a1 (mnt_lt h1) hl' ((nvi k' h3).mpr z)
theorem eBy_ex {tone x : Int} {tl : Int → Int} {n k : Nat} (hB : bkB β) (hk : k < n) (he : eW 0 β mk tone tl n (n - k) x < 100) : ∃ v, 0 ≤ v ∧ v < 60 ∧ ldP β mk (-1) (-1) 9 x v ∧ eBy β mk tone tl n k x v = nv (eW 0 β mk tone tl n (n - k) x) := by
  rw [eW_s hk] at he ⊢
  have hm := lmin_le (fun i => eW 0 β mk tone tl n (n - (k + 1)) (nxB β x (i / 8 : Nat) (i % 8 : Nat)) + cost 0 (tl k) i) (brL (alwN 0 β mk x (tl k)) 48)
  obtain ⟨i, hi, e⟩ := hm.2.2.resolve_left (fun z => by omega)
  obtain ⟨h1, h2⟩ := (br_ld hB x (tl k) i).mp hi
  obtain ⟨a1, a2, -, -⟩ := mnt_in h1
  refine ⟨mnt i, a1, a2, h2, ?_⟩
  rw [eBy_mnt h1, ← e]
def qRight (β : Bk) (mk : Int → Int) (st : Int) (sz : Int → Int) (vl : Int → Int → Int) (t tone i : Int) (tl : Int → Int) (r : Int) : Prop := ∃ no, errNo β sz vl t tone no ∧ ((no ≠ 0 ∧ r = no) ∨ (no = 0 ∧ ((i < 0 ∧ r = -3) ∨ (0 ≤ i ∧ ((errV β mk tone tl (sz t).toNat st = -1 ∨ sz t ≤ i) ∧ r = -1 ∨ errV β mk tone tl (sz t).toNat st ≠ -1 ∧ i < sz t ∧ RtM 0 β mk tone tl (sz t).toNat (sz t).toNat st i.toNat r)))))
theorem errV_no {tone : Int} {tl : Int → Int} {n : Nat} : errV β mk tone tl n st ≠ -1 ↔ eW 0 β mk tone tl n n st < 100 := by
  have := eW_in (s := 0) (β := β) (mk := mk) (tone := tone) (tl := tl) (n := n) n st
  unfold errV
  split <;> omega
set_option maxRecDepth 4000 in
theorem tw_right {t tone i : Int} {tl : Int → Int} (S : SH sh) (M : MD ct β mk st) (T : MT ct sz bt vl) (ht : i32 t) (hto : i32 tone) (hi : i32 i) (htl : told sz vl t tl) : Mt YX12_right (d + 7) [.inr (.inr 92), .inl t, .inl tone, .inl i] sh sh ct (pI fun r c => qRight β mk st sz vl t tone i tl r ∧ mF ct c) := by
  have hB := M.B
  have hrg := M.rg
  unfold i32 at hi
  have s100 : shA sh 100 = some (20, 70000) := S.at _ rfl
  have s106 : shA sh 106 = some (20, 9100) := S.at _ rfl
  have s112 : shA sh 112 = some (20, 4) := S.at _ rfl
  generalize hP : (pI fun r c => qRight β mk st sz vl t tone i tl r ∧ mF ct c) = Po
  refine Mt.of rfl (Nat.le_of_ble_eq_true rfl) ?_
  show G _ 0 [some (.inr (.inr 92)), some (.inl t), some (.inl tone), some (.inl i), none, none, none, none] [] sh ct
  refine g_aload_n (q := 1) dX12_right_0 rfl rfl ?_
  refine g_iconst (q := 2) dX12_right_1 rfl ?_
  refine g_putI (q := 5) (kI := 0) fX12_1 (by first | assumption | exact S.at _ rfl) dX12_right_2 rfl rfl ?_
  refine g_aload_n (q := 6) dX12_right_5 rfl rfl ?_
  refine g_iload_n (q := 7) dX12_right_6 rfl rfl ?_
  refine g_iload_n (q := 8) dX12_right_7 rfl rfl ?_
  refine g_callV (q := 11) lX12_400 mX12_noErrata nX12_noErrata rfl (tw_noErrata (d + 2) sh _ S (M.mf mF.th) (T.mf mF.th) ht hto) (by first | assumption | exact S.at _ rfl) rfl rfl shLe.rf (rmOk.mk (by omega) (by first | exact shLe.rf | assumption)) (Nat.le_of_ble_eq_true rfl) dX12_right_8 rfl rfl (kI fun no c1 hp => ?_)
  obtain ⟨hno, rfl⟩ := hp
  have hng := hno.rg
  refine s_istore_8_4 (q := 13) dX12_right_11 rfl rfl rfl ?_
  refine g_iload (q := 15) dX12_right_13 rfl rfl ?_
  refine g_if_eq (q := 18) (tg := 21) dX12_right_15 (by decide) rfl (fun c_15 => ?_) (fun c_15 => ?_)
  · have h0 : no = 0 := by unfold w32 at c_15; omega
    subst h0
    obtain ⟨hrow, htn⟩ := hno.zero
    have h2 := hrow.2.1
    have h1 := hrow.1
    generalize hnn : (sz t).toNat = n at *
    have en : (n : Int) = sz t := by omega
    have R := hrow.row _ hB (T.mf (mF.th (v := 0))) en (fun i hi => htl i (by omega))
    refine g_iload_n (q := 22) dX12_right_21 rfl rfl ?_
    refine g_if_ge (q := 25) (tg := 28) dX12_right_22 (by decide) rfl (fun c_22 => ?_) (fun c_22 => ?_)
    · have i0 : 0 ≤ i := by unfold w32 at c_22; omega
      refine g_aload_n (q := 29) dX12_right_28 rfl rfl ?_
      refine g_iload_n (q := 30) dX12_right_29 rfl rfl ?_
      refine g_iload_n (q := 31) dX12_right_30 rfl rfl ?_
      refine g_callV (q := 34) lX12_403 mX12_laysErrata nX12_laysErrata rfl (tw_laysErrata d sh _ S (M.mf mF.th) R.1 (by omega) (by omega) htn.1 (by have := htn.2; omega)) (by first | assumption | exact S.at _ rfl) rfl rfl shLe.rf (rmOk.mk (by omega) (by first | exact shLe.rf | assumption)) (Nat.le_of_ble_eq_true rfl) dX12_right_31 rfl rfl (kI fun r c2 hp => ?_)
      obtain ⟨hr, D, W, e2⟩ := hp
      have e2' := (mF.th (v := 0)).tr (mF.of e2 rfl)
      have L2 := e2'.L M.L
      have M2 := M.mf e2'
      have R2 : rowT c2 t n tl := R.1.eq _ (e2 112 (by decide)) (e2 113 (by decide))
      have h112 := R2.2.2.1
      have hev := eW_in (s := 0) (β := β) (mk := mk) (tone := tone) (tl := tl) (n := n) n st
      have hrb : -1 ≤ r ∧ r ≤ 100 := by
        rw [hr]
        unfold errV
        split <;> omega
      have none' : (errV β mk tone tl n st = -1 ∨ sz t ≤ i) → Po (some (.inl (-1))) c2 := by
        intro h
        rw [← hP]
        refine ⟨_, rfl, ⟨0, hno, Or.inr ⟨rfl, Or.inr ⟨i0, Or.inl ⟨?_, rfl⟩⟩⟩⟩, e2'⟩
        rw [hnn]
        exact h
      refine g_iconst (q := 35) dX12_right_34 rfl ?_
      refine g_icmp_eq (q := 38) (tg := 48) dX12_right_35 (by decide) rfl (fun c_35 => ?_) (fun c_35 => ?_)
      · refine g_iconst (q := 49) dX12_right_48 rfl ?_
        refine g_ireturn dX12_right_49 rfl ?_
        exact none' (Or.inl (by rw [← hr]; unfold w32 at c_35; omega))
      · have hne : errV β mk tone tl n st ≠ -1 := by
          rw [← hr]
          intro z
          exact c_35 (by rw [z])
        refine g_iload_n (q := 39) dX12_right_38 rfl rfl ?_
        refine g_aload_n (q := 40) dX12_right_39 rfl rfl ?_
        refine g_getA (q := 43) (kI := 33) fX12_78 (by first | assumption | exact S.at _ rfl) dX12_right_40 rfl rfl (by first | assumption | exact L.at _ _ rfl | exact LK.at (by assumption) _ _ rfl | ((repeat first | rewrite [wr_na (by decide)] | rewrite [wr_nk (by decide)] | rewrite [wa_na (by decide)]); first | assumption | exact LK.at (by assumption) _ _ rfl) | exact rfl) ?_
        refine g_iload_n (q := 44) dX12_right_43 rfl rfl ?_
        have h1a := h1
        refine g_iaload (q := 45) (by first | assumption | exact S.at _ rfl) (by omega) (by omega) (by omega) dX12_right_44 rfl ?_
        rw [h112]
        refine g_icmp_lt (q := 48) (tg := 50) dX12_right_45 (by decide) rfl (fun c_45 => ?_) (fun c_45 => ?_)
        · have hin : i < n := by unfold w32 at c_45; omega
          refine g_aload_n (q := 51) dX12_right_50 rfl rfl ?_
          refine g_callV (q := 54) lX12_251 mX12_standNow nX12_standNow rfl (tw_standNow (d + 6) sh _ M2 S) (by first | assumption | exact S.at _ rfl) rfl rfl shLe.rf (rmOk.mk (by omega) (by first | exact shLe.rf | assumption)) (Nat.le_of_ble_eq_true rfl) dX12_right_51 rfl rfl (kI fun r_ c_ hp => ?_)
          obtain ⟨hr, hq⟩ := hp
          replace hr := hr.symm
          replace hq := hq.symm
          subst hr hq
          refine s_istore_8_5 (q := 56) dX12_right_54 rfl rfl rfl ?_
          refine g_iconst (q := 57) dX12_right_56 rfl ?_
          refine s_istore_8_6 (q := 59) dX12_right_57 rfl rfl rfl ?_
          refine g_forA (α := Int) (fun k x => [some (.inr (.inr 92)), some (.inl t), some (.inl tone), some (.inl i), some (.inl 0), some (.inl x), some (.inl k), none]) (fun k x c => (0 ≤ k ∧ k ≤ i) ∧ (0 ≤ x ∧ x < 700) ∧ c = c2 ∧ eW 0 β mk tone tl n (n - k.toNat) x < 100 ∧ ∀ w, RtM 0 β mk tone tl n (n - k.toNat) x (i - k).toNat w → RtM 0 β mk tone tl n n st i.toNat w) (i + 1) ?_ ?_ (i := 0) (a := st) (by omega) ⟨by omega, hrg, rfl, errV_no.mp hne, fun w hw => by simpa using hw⟩ (by simp [lsSub])
          · rintro k x c hk ⟨⟨k0, k1⟩, ⟨x0, x1⟩, hc, he, hRt⟩ kk
            subst hc
            have ek : ((k.toNat : Nat) : Int) = k := by omega
            have hkn : k.toNat < n := by omega
            obtain ⟨vg, vg0, vg1, vgl, vge⟩ := eBy_ex (mk := mk) hB hkn he
            have hwk := W k.toNat (by omega) (by omega) x x0 x1
            rw [ek] at hwk
            have hein := eW_in (s := 0) (β := β) (mk := mk) (tone := tone) (tl := tl) (n := n) (n - k.toNat) x
            have hnv := nv_in (a := eW 0 β mk tone tl n (n - k.toNat) x) (by omega)
            have hnv2 := hnv.2.2.1.mpr he
            refine g_iconst (q := 60) dX12_right_59 rfl ?_
            refine s_istore_8_7 (q := 62) dX12_right_60 rfl rfl rfl ?_
            refine g_for (fun v => [some (.inr (.inr 92)), some (.inl t), some (.inl tone), some (.inl i), some (.inl 0), some (.inl x), some (.inl k), some (.inl v)]) (fun v c' => c' = c ∧ 0 ≤ v ∧ v ≤ vg ∧ ∀ v', 0 ≤ v' → v' < v → ldP β mk (-1) (-1) 9 x v' → eBy β mk tone tl n k.toNat x v' ≠ nv (eW 0 β mk tone tl n (n - k.toNat) x)) 60 ?_ ?_ (i := 0) (by omega) ⟨rfl, by omega, vg0, fun v' _ _ => by omega⟩ (by simp [lsSub])
            · rintro v c' hv ⟨rfl, v0, hvg, hnov⟩ k2
              have hb := eBy_in (β := β) (mk := mk) (tone := tone) (tl := tl) (n := n) (k := k.toNat) x v
              have heb := tw_errataBy (d + 5) sh c' (tone := tone) (k := k.toNat) (v := v) S L2 hB D R2 (by omega) hkn (fun j a b => W j (by omega) b) x0 x1 v0 hv
              rw [ek] at heb
              have go : ¬ (ldP β mk (-1) (-1) 9 x v ∧ eBy β mk tone tl n k.toNat x v = nv (eW 0 β mk tone tl n (n - k.toNat) x)) → G (mkK YX12_right (d + 7) sh sh Po) 90 [some (.inr (.inr 92)), some (.inl t), some (.inl tone), some (.inl i), some (.inl 0), some (.inl x), some (.inl k), some (.inl v)] [] sh c' := by
                intro h
                refine s_iinc_8_7 (q := 93) dX12_right_90 rfl rfl rfl ?_
                refine g_goto (q := 62) dX12_right_93 (by decide) ?_
                refine k2 _ _ (by simp [lsSub]) ⟨rfl, by omega, ?_, fun v' a b l => ?_⟩
                · rcases Int.lt_trichotomy v vg with h3 | h3 | h3
                  · omega
                  · subst h3
                    exact absurd ⟨vgl, vge⟩ h
                  · omega
                · by_cases hv' : v' = v
                  · subst hv'
                    exact fun z => h ⟨l, z⟩
                  · exact hnov v' a (by omega) l
              refine g_aload_n (q := 63) dX12_right_62 rfl rfl ?_
              refine g_iload_n (q := 64) dX12_right_63 rfl rfl ?_
              refine g_iload (q := 66) dX12_right_64 rfl rfl ?_
              refine g_iload (q := 68) dX12_right_66 rfl rfl ?_
              refine g_iload (q := 70) dX12_right_68 rfl rfl ?_
              refine g_callV (q := 73) lX12_396 mX12_errataBy nX12_errataBy rfl (heb) (by first | assumption | exact S.at _ rfl) rfl rfl shLe.rf (rmOk.mk (by omega) (by first | exact shLe.rf | assumption)) (Nat.le_of_ble_eq_true rfl) dX12_right_70 rfl rfl (kI fun r_ c_ hp => ?_)
              obtain ⟨hr, hq⟩ := hp
              replace hr := hr.symm
              replace hq := hq.symm
              subst hr hq
              refine g_aload_n (q := 74) dX12_right_73 rfl rfl ?_
              refine g_getA (q := 77) (kI := 27) fX12_60 (by first | assumption | exact S.at _ rfl) dX12_right_74 rfl rfl (by first | assumption | exact L.at _ _ rfl | exact LK.at (by assumption) _ _ rfl | ((repeat first | rewrite [wr_na (by decide)] | rewrite [wr_nk (by decide)] | rewrite [wa_na (by decide)]); first | assumption | exact LK.at (by assumption) _ _ rfl) | exact rfl) ?_
              refine g_sipush (q := 80) dX12_right_77 (by decide +kernel) rfl ?_
              refine g_iload (q := 82) dX12_right_80 rfl rfl ?_
              refine g_imul (q := 83) dX12_right_82 rfl ?_
              refine g_iload (q := 85) dX12_right_83 rfl rfl ?_
              refine g_iadd (q := 86) dX12_right_85 rfl ?_
              refine g_iaload (q := 87) (by first | assumption | exact S.at _ rfl) (by omega) (by omega) (by omega) dX12_right_86 rfl ?_
              rw [hwk]
              by_cases hq : ldP β mk (-1) (-1) 9 x v
              · rw [if_pos hq]
                refine g_icmp_eq (q := 90) (tg := 96) dX12_right_87 (by decide) rfl (fun c_87 => ?_) (fun c_87 => ?_)
                · have heq : eBy β mk tone tl n k.toNat x v = nv (eW 0 β mk tone tl n (n - k.toNat) x) := by unfold w32 at c_87; omega
                  obtain ⟨g1, g2⟩ := eBy_hit hB hkn he v0 hq heq hnov
                  have hb2 := hB.2.2.1
                  have hnx := nxB_in (β := β) (st := x) (m := v / 10) (s := v % 10) (by omega) (by have := hq.1.1; omega)
                  refine g_iload (q := 98) dX12_right_96 rfl rfl ?_
                  refine g_iload_n (q := 99) dX12_right_98 rfl rfl ?_
                  refine g_icmp_ne (q := 102) (tg := 105) dX12_right_99 (by decide) rfl (fun c_99 => ?_) (fun c_99 => ?_)
                  · have hne2 : k ≠ i := fun z => c_99 (by rw [z])
                    have hld := D.at x0 x1 v0 (by omega)
                    have hp := ldV_p (β := β) (mk := mk) (qu := -1) (un := -1) (mo := 9) (x := x) v0
                    refine g_aload_n (q := 106) dX12_right_105 rfl rfl ?_
                    refine g_getA (q := 109) (kI := 21) fX12_40 (by first | assumption | exact S.at _ rfl) dX12_right_106 rfl rfl (by first | assumption | exact L.at _ _ rfl | exact LK.at (by assumption) _ _ rfl | ((repeat first | rewrite [wr_na (by decide)] | rewrite [wr_nk (by decide)] | rewrite [wa_na (by decide)]); first | assumption | exact LK.at (by assumption) _ _ rfl) | exact rfl) ?_
                    refine g_bipush (q := 111) dX12_right_109 (by decide +kernel) rfl ?_
                    refine g_iload (q := 113) dX12_right_111 rfl rfl ?_
                    refine g_imul (q := 114) dX12_right_113 rfl ?_
                    refine g_iload (q := 116) dX12_right_114 rfl rfl ?_
                    refine g_iadd (q := 117) dX12_right_116 rfl ?_
                    refine g_iaload (q := 118) (by first | assumption | exact S.at _ rfl) (by omega) (by omega) (by omega) dX12_right_117 rfl ?_
                    rw [hld, hp.2 hq]
                    refine s_istore_8_5 (q := 120) dX12_right_118 rfl rfl rfl ?_
                    refine s_iinc_8_6 (q := 123) dX12_right_120 rfl rfl rfl ?_
                    refine g_goto (q := 59) dX12_right_123 (by decide) ?_
                    refine kk _ _ _ (by simp [lsSub]) ⟨by omega, hnx, rfl, ?_, fun w hw => ?_⟩
                    · rw [show (k + 1).toNat = k.toNat + 1 by omega]
                      exact g1
                    · rw [show (k + 1).toNat = k.toNat + 1 by omega] at hw
                      exact hRt w (g2 _ w (Or.inr ⟨(i - (k + 1)).toNat, by omega, hw⟩))
                  · have hki : k = i := by unfold w32 at c_99; omega
                    refine g_iload (q := 104) dX12_right_102 rfl rfl ?_
                    refine g_ireturn dX12_right_104 rfl ?_
                    rw [← hP]
                    refine ⟨_, rfl, ⟨0, hno, Or.inr ⟨rfl, Or.inr ⟨i0, Or.inr ⟨?_, by omega, ?_⟩⟩⟩⟩, e2'⟩
                    · rw [hnn]
                      exact hne
                    · rw [hnn]
                      exact hRt v (g2 _ v (Or.inl ⟨by omega, rfl⟩))
                · exact go (fun z => c_87 (by rw [z.2]))
              · rw [if_neg hq]
                refine g_icmp_eq (q := 90) (tg := 96) dX12_right_87 (by decide) rfl (fun c_87 => ?_) (fun c_87 => ?_)
                · exact absurd c_87 (by unfold w32; omega)
                · exact go (fun z => hq z.1)
            · rintro c' ⟨-, -, h60, -⟩
              omega
          · rintro x c ⟨⟨-, hki⟩, -⟩
            omega
        · refine g_iconst (q := 49) dX12_right_48 rfl ?_
          refine g_ireturn dX12_right_49 rfl ?_
          exact none' (Or.inr (by unfold w32 at c_45; omega))
    · refine g_bipush (q := 27) dX12_right_25 (by decide +kernel) rfl ?_
      refine g_ireturn dX12_right_27 rfl ?_
      rw [← hP]
      exact ⟨_, rfl, ⟨0, hno, Or.inr ⟨rfl, Or.inl ⟨by unfold w32 at c_22; omega, rfl⟩⟩⟩, mF.th⟩
  · refine g_iload (q := 20) dX12_right_18 rfl rfl ?_
    refine g_ireturn dX12_right_20 rfl ?_
    rw [← hP]
    exact ⟨_, rfl, ⟨no, hno, Or.inl ⟨fun z => c_15 (by rw [z]; rfl), rfl⟩⟩, mF.th⟩
def qBack (β : Bk) (mk : Int → Int) (st : Int) (sz : Int → Int) (vl : Int → Int → Int) (t tone : Int) (tl : Int → Int) (r : Int) : Prop := ∃ no, errNo β sz vl t tone no ∧ ((no ≠ 0 ∧ r = no) ∨ (no = 0 ∧ ((errV β mk tone tl (sz t).toNat st = -1 ∧ r = -1) ∨ (errV β mk tone tl (sz t).toNat st ≠ -1 ∧ r = lkS β mk tone tl (sz t).toNat (sz t).toNat st 0))))
set_option maxRecDepth 4000 in
theorem tw_back {t tone : Int} {tl : Int → Int} (S : SH sh) (M : MD ct β mk st) (T : MT ct sz bt vl) (ht : i32 t) (hto : i32 tone) (htl : told sz vl t tl) : Mt YX12_back (d + 7) [.inr (.inr 92), .inl t, .inl tone] sh sh ct (pI fun r c => qBack β mk st sz vl t tone tl r ∧ mF ct c) := by
  have hB := M.B
  have hrg := M.rg
  have s100 : shA sh 100 = some (20, 70000) := S.at _ rfl
  have s106 : shA sh 106 = some (20, 9100) := S.at _ rfl
  have s112 : shA sh 112 = some (20, 4) := S.at _ rfl
  generalize hP : (pI fun r c => qBack β mk st sz vl t tone tl r ∧ mF ct c) = Po
  refine Mt.of rfl (Nat.le_of_ble_eq_true rfl) ?_
  show G _ 0 [some (.inr (.inr 92)), some (.inl t), some (.inl tone), none, none, none, none] [] sh ct
  refine g_aload_n (q := 1) dX12_back_0 rfl rfl ?_
  refine g_iconst (q := 2) dX12_back_1 rfl ?_
  refine g_putI (q := 5) (kI := 0) fX12_1 (by first | assumption | exact S.at _ rfl) dX12_back_2 rfl rfl ?_
  refine g_aload_n (q := 6) dX12_back_5 rfl rfl ?_
  refine g_iload_n (q := 7) dX12_back_6 rfl rfl ?_
  refine g_iload_n (q := 8) dX12_back_7 rfl rfl ?_
  refine g_callV (q := 11) lX12_400 mX12_noErrata nX12_noErrata rfl (tw_noErrata (d + 2) sh _ S (M.mf mF.th) (T.mf mF.th) ht hto) (by first | assumption | exact S.at _ rfl) rfl rfl shLe.rf (rmOk.mk (by omega) (by first | exact shLe.rf | assumption)) (Nat.le_of_ble_eq_true rfl) dX12_back_8 rfl rfl (kI fun no c1 hp => ?_)
  obtain ⟨hno, rfl⟩ := hp
  have hng := hno.rg
  refine s_istore_n_7_3 (q := 12) dX12_back_11 rfl rfl rfl ?_
  refine g_iload_n (q := 13) dX12_back_12 rfl rfl ?_
  refine g_if_eq (q := 16) (tg := 18) dX12_back_13 (by decide) rfl (fun c_13 => ?_) (fun c_13 => ?_)
  · have h0 : no = 0 := by unfold w32 at c_13; omega
    subst h0
    obtain ⟨hrow, htn⟩ := hno.zero
    have h2 := hrow.2.1
    have h1 := hrow.1
    generalize hnn : (sz t).toNat = n at *
    have en : (n : Int) = sz t := by omega
    have R := hrow.row _ hB (T.mf (mF.th (v := 0))) en (fun i hi => htl i (by omega))
    refine g_aload_n (q := 19) dX12_back_18 rfl rfl ?_
    refine g_iload_n (q := 20) dX12_back_19 rfl rfl ?_
    refine g_iload_n (q := 21) dX12_back_20 rfl rfl ?_
    refine g_callV (q := 24) lX12_403 mX12_laysErrata nX12_laysErrata rfl (tw_laysErrata d sh _ S (M.mf mF.th) R.1 (by omega) (by omega) htn.1 (by have := htn.2; omega)) (by first | assumption | exact S.at _ rfl) rfl rfl shLe.rf (rmOk.mk (by omega) (by first | exact shLe.rf | assumption)) (Nat.le_of_ble_eq_true rfl) dX12_back_21 rfl rfl (kI fun r c2 hp => ?_)
    obtain ⟨hr, D, W, e2⟩ := hp
    have e2' := (mF.th (v := 0)).tr (mF.of e2 rfl)
    have L2 := e2'.L M.L
    have M2 := M.mf e2'
    have R2 : rowT c2 t n tl := R.1.eq _ (e2 112 (by decide)) (e2 113 (by decide))
    have h112 := R2.2.2.1
    have hev := eW_in (s := 0) (β := β) (mk := mk) (tone := tone) (tl := tl) (n := n) n st
    have hrb : -1 ≤ r ∧ r ≤ 100 := by
      rw [hr]
      unfold errV
      split <;> omega
    refine g_iconst (q := 25) dX12_back_24 rfl ?_
    refine g_icmp_ne (q := 28) (tg := 30) dX12_back_25 (by decide) rfl (fun c_25 => ?_) (fun c_25 => ?_)
    · have hne : errV β mk tone tl n st ≠ -1 := by
        rw [← hr]
        intro z
        exact c_25 (by rw [z])
      have fin : ∀ v, v = lkS β mk tone tl n n st 0 → Po (some (.inl v)) c2 := by
        intro v hv
        rw [← hP]
        refine ⟨_, rfl, ⟨0, hno, Or.inr ⟨rfl, Or.inr ⟨?_, ?_⟩⟩⟩, e2'⟩
        · rw [hnn]
          exact hne
        · rw [hnn]
          exact hv
      refine g_iconst (q := 31) dX12_back_30 rfl ?_
      refine s_istore_7_4 (q := 33) dX12_back_31 rfl rfl rfl ?_
      refine g_aload_n (q := 34) dX12_back_33 rfl rfl ?_
      refine g_callV (q := 37) lX12_251 mX12_standNow nX12_standNow rfl (tw_standNow (d + 6) sh _ M2 S) (by first | assumption | exact S.at _ rfl) rfl rfl shLe.rf (rmOk.mk (by omega) (by first | exact shLe.rf | assumption)) (Nat.le_of_ble_eq_true rfl) dX12_back_34 rfl rfl (kI fun r_ c_ hp => ?_)
      obtain ⟨hr, hq⟩ := hp
      replace hr := hr.symm
      replace hq := hq.symm
      subst hr hq
      refine s_istore_7_5 (q := 39) dX12_back_37 rfl rfl rfl ?_
      refine g_iconst (q := 40) dX12_back_39 rfl ?_
      refine s_istore_7_6 (q := 42) dX12_back_40 rfl rfl rfl ?_
      refine g_forA (α := Int × Int) (fun k a => [some (.inr (.inr 92)), some (.inl t), some (.inl tone), some (.inl 0), some (.inl a.2), some (.inl a.1), some (.inl k)]) (fun k a c => 0 ≤ k ∧ (0 ≤ a.1 ∧ a.1 < 700) ∧ c = c2 ∧ lkS β mk tone tl n (n - k.toNat) a.1 a.2 = lkS β mk tone tl n n st 0) n ?_ ?_ (i := 0) (a := (st, 0)) (by omega) ⟨by omega, hrg, rfl, rfl⟩ (by simp [lsSub])
      · rintro k ⟨x, best⟩ c hk ⟨k0, ⟨x0, x1⟩, hc, hl⟩ kk
        dsimp only at x0 x1 hl
        subst hc
        have ek : ((k.toNat : Nat) : Int) = k := by omega
        have hkn : k.toNat < n := by omega
        have hok := R.2 k.toNat hkn
        have hRk := R2.2.2.2 k.toNat hkn
        rw [ek] at hok hRk
        have hok2 : 0 ≤ tl k ∧ tl k / 10 < β.n 2 ∧ tl k % 10 < β.n 3 := by
          rcases hok with h | h
          · exact h
          · omega
        rw [lkS_s hkn, ek] at hl
        have hld := D.at x0 x1 hok2.1 hRk.2.2
        have hp := ldV_p (β := β) (mk := mk) (qu := -1) (un := -1) (mo := 9) (x := x) hok2.1
        have hcl := can_ld (mk := mk) (x := x) hB hok2
        refine g_iload (q := 44) dX12_back_42 rfl rfl ?_
        refine g_aload_n (q := 45) dX12_back_44 rfl rfl ?_
        refine g_getA (q := 48) (kI := 33) fX12_78 (by first | assumption | exact S.at _ rfl) dX12_back_45 rfl rfl (by first | assumption | exact L.at _ _ rfl | exact LK.at (by assumption) _ _ rfl | ((repeat first | rewrite [wr_na (by decide)] | rewrite [wr_nk (by decide)] | rewrite [wa_na (by decide)]); first | assumption | exact LK.at (by assumption) _ _ rfl) | exact rfl) ?_
        refine g_iload_n (q := 49) dX12_back_48 rfl rfl ?_
        have h1a := h1
        refine g_iaload (q := 50) (by first | assumption | exact S.at _ rfl) (by omega) (by omega) (by omega) dX12_back_49 rfl ?_
        refine g_icmp_ge (q := 53) (tg := 116) dX12_back_50 (by decide) rfl (fun c_50 => ?_) (fun c_50 => ?_)
        · rw [h112] at c_50
          exact absurd c_50 (by unfold w32; omega)
        · refine g_aload_n (q := 54) dX12_back_53 rfl rfl ?_
          refine g_getA (q := 57) (kI := 21) fX12_40 (by first | assumption | exact S.at _ rfl) dX12_back_54 rfl rfl (by first | assumption | exact L.at _ _ rfl | exact LK.at (by assumption) _ _ rfl | ((repeat first | rewrite [wr_na (by decide)] | rewrite [wr_nk (by decide)] | rewrite [wa_na (by decide)]); first | assumption | exact LK.at (by assumption) _ _ rfl) | exact rfl) ?_
          refine g_bipush (q := 59) dX12_back_57 (by decide +kernel) rfl ?_
          refine g_iload (q := 61) dX12_back_59 rfl rfl ?_
          refine g_imul (q := 62) dX12_back_61 rfl ?_
          refine g_aload_n (q := 63) dX12_back_62 rfl rfl ?_
          refine g_iload_n (q := 64) dX12_back_63 rfl rfl ?_
          refine g_iload (q := 66) dX12_back_64 rfl rfl ?_
          have hmi := tw_minuteIn (d + 6) sh c (k := k.toNat) S L2 R2 hkn
          rw [ek] at hmi
          refine g_callV (q := 69) lX12_387 mX12_minuteIn nX12_minuteIn rfl (hmi) (by first | assumption | exact S.at _ rfl) rfl rfl shLe.rf (rmOk.mk (by omega) (by first | exact shLe.rf | assumption)) (Nat.le_of_ble_eq_true rfl) dX12_back_66 rfl rfl (kI fun r_ c_ hp => ?_)
          obtain ⟨hr, hq⟩ := hp
          replace hr := hr.symm
          replace hq := hq.symm
          subst hr hq
          refine g_iadd (q := 70) dX12_back_69 rfl ?_
          refine g_iaload (q := 71) (by first | assumption | exact S.at _ rfl) (by omega) (by omega) (by omega) dX12_back_70 rfl ?_
          rw [hld]
          by_cases hq : ldP β mk (-1) (-1) 9 x (tl k)
          · rw [hp.2 hq]
            rw [if_pos (hcl.mp hq)] at hl
            have hb2 := hB.2.2.1
            have hnx := nxB_in (β := β) (st := x) (m := tl k / 10) (s := tl k % 10) (by omega) (by omega)
            have hW := W (k.toNat + 1) (by omega) (by omega) _ hnx.1 hnx.2
            rw [show (700 * ((k.toNat + 1 : Nat) : Int) + nxB β x (tl k / 10) (tl k % 10)) = 700 * (k + 1) + nxB β x (tl k / 10) (tl k % 10) by omega] at hW
            have hein := eW_in (s := 0) (β := β) (mk := mk) (tone := tone) (tl := tl) (n := n) (n - (k.toNat + 1)) (nxB β x (tl k / 10) (tl k % 10))
            have hnv := nv_in (a := eW 0 β mk tone tl n (n - (k.toNat + 1)) (nxB β x (tl k / 10) (tl k % 10))) (by omega)
            refine s_istore_7_5 (q := 73) dX12_back_71 rfl rfl rfl ?_
            refine g_iload (q := 75) dX12_back_73 rfl rfl ?_
            refine g_iconst (q := 76) dX12_back_75 rfl ?_
            refine g_icmp_ne (q := 79) (tg := 82) dX12_back_76 (by decide) rfl (fun c_76 => ?_) (fun c_76 => ?_)
            · refine g_aload_n (q := 83) dX12_back_82 rfl rfl ?_
              refine g_getA (q := 86) (kI := 27) fX12_60 (by first | assumption | exact S.at _ rfl) dX12_back_83 rfl rfl (by first | assumption | exact L.at _ _ rfl | exact LK.at (by assumption) _ _ rfl | ((repeat first | rewrite [wr_na (by decide)] | rewrite [wr_nk (by decide)] | rewrite [wa_na (by decide)]); first | assumption | exact LK.at (by assumption) _ _ rfl) | exact rfl) ?_
              refine g_sipush (q := 89) dX12_back_86 (by decide +kernel) rfl ?_
              refine g_iload (q := 91) dX12_back_89 rfl rfl ?_
              refine g_iconst (q := 92) dX12_back_91 rfl ?_
              refine g_iadd (q := 93) dX12_back_92 rfl ?_
              refine g_imul (q := 94) dX12_back_93 rfl ?_
              refine g_iload (q := 96) dX12_back_94 rfl rfl ?_
              refine g_iadd (q := 97) dX12_back_96 rfl ?_
              refine g_iaload (q := 98) (by first | assumption | exact S.at _ rfl) (by omega) (by omega) (by omega) dX12_back_97 rfl ?_
              rw [hW]
              have nxt : ∀ b2, b2 = (if eW 0 β mk tone tl n (n - (k.toNat + 1)) (nxB β x (tl k / 10) (tl k % 10)) = 100 then best else k + 1) → G (mkK YX12_back (d + 7) sh sh Po) 110 [some (.inr (.inr 92)), some (.inl t), some (.inl tone), some (.inl 0), some (.inl b2), some (.inl (nxB β x (tl k / 10) (tl k % 10))), some (.inl k)] [] sh c := by
                intro b2 hb2
                refine s_iinc_7_6 (q := 113) dX12_back_110 rfl rfl rfl ?_
                refine g_goto (q := 42) dX12_back_113 (by decide) ?_
                refine kk (nxB β x (tl k / 10) (tl k % 10), b2) _ _ (by simp [lsSub]) ⟨by omega, hnx, rfl, ?_⟩
                rw [show (k + 1).toNat = k.toNat + 1 by omega, hb2]
                exact hl
              refine g_ldcw (q := 101) dX12_back_98 kX12_334 rfl ?_
              refine g_icmp_ge (q := 104) (tg := 110) dX12_back_101 (by decide) rfl (fun c_101 => ?_) (fun c_101 => ?_)
              · refine nxt best ?_
                rw [if_pos (by
                  have : ¬ nv (eW 0 β mk tone tl n (n - (k.toNat + 1)) (nxB β x (tl k / 10) (tl k % 10))) < 268435456 := by unfold w32 at c_101; omega
                  have := fun z => this (hnv.2.2.1.mpr z)
                  omega)]
              · refine g_iload (q := 106) dX12_back_104 rfl rfl ?_
                refine g_iconst (q := 107) dX12_back_106 rfl ?_
                refine g_iadd (q := 108) dX12_back_107 rfl ?_
                refine s_istore_7_4 (q := 110) dX12_back_108 rfl rfl rfl ?_
                refine nxt (k + 1) ?_
                rw [if_neg (by
                  have : nv (eW 0 β mk tone tl n (n - (k.toNat + 1)) (nxB β x (tl k / 10) (tl k % 10))) < 268435456 := by unfold w32 at c_101; omega
                  have := hnv.2.2.1.mp this
                  omega)]
            · exact absurd c_76 (by unfold w32; omega)
          · rw [hp.1.mpr hq]
            rw [if_neg (fun z => hq (hcl.mpr z))] at hl
            refine s_istore_7_5 (q := 73) dX12_back_71 rfl rfl rfl ?_
            refine g_iload (q := 75) dX12_back_73 rfl rfl ?_
            refine g_iconst (q := 76) dX12_back_75 rfl ?_
            refine g_icmp_ne (q := 79) (tg := 82) dX12_back_76 (by decide) rfl (fun c_76 => ?_) (fun c_76 => ?_)
            · exact absurd rfl c_76
            · refine g_iload (q := 81) dX12_back_79 rfl rfl ?_
              refine g_ireturn dX12_back_81 rfl ?_
              exact fin _ hl
      · rintro ⟨x, best⟩ c ⟨-, -, hc, hl⟩
        dsimp only at hl
        subst hc
        rw [show n - ((n : Int)).toNat = 0 by omega] at hl
        have h1a := h1
        refine g_iload (q := 44) dX12_back_42 rfl rfl ?_
        refine g_aload_n (q := 45) dX12_back_44 rfl rfl ?_
        refine g_getA (q := 48) (kI := 33) fX12_78 (by first | assumption | exact S.at _ rfl) dX12_back_45 rfl rfl (by first | assumption | exact L.at _ _ rfl | exact LK.at (by assumption) _ _ rfl | ((repeat first | rewrite [wr_na (by decide)] | rewrite [wr_nk (by decide)] | rewrite [wa_na (by decide)]); first | assumption | exact LK.at (by assumption) _ _ rfl) | exact rfl) ?_
        refine g_iload_n (q := 49) dX12_back_48 rfl rfl ?_
        refine g_iaload (q := 50) (by first | assumption | exact S.at _ rfl) (by omega) (by omega) (by omega) dX12_back_49 rfl ?_
        refine g_icmp_ge (q := 53) (tg := 116) dX12_back_50 (by decide) rfl (fun c_50 => ?_) (fun c_50 => ?_)
        · refine g_iload (q := 118) dX12_back_116 rfl rfl ?_
          refine g_ireturn dX12_back_118 rfl ?_
          exact fin _ hl
        · rw [h112] at c_50
          exact absurd c_50 (Int.lt_irrefl _)
    · refine g_iconst (q := 29) dX12_back_28 rfl ?_
      refine g_ireturn dX12_back_29 rfl ?_
      rw [← hP]
      refine ⟨_, rfl, ⟨0, hno, Or.inr ⟨rfl, Or.inl ⟨?_, rfl⟩⟩⟩, e2'⟩
      rw [hnn, ← hr]
      unfold w32 at c_25
      omega
  · refine g_iload_n (q := 17) dX12_back_16 rfl rfl ?_
    refine g_ireturn dX12_back_17 rfl ?_
    rw [← hP]
    exact ⟨_, rfl, ⟨no, hno, Or.inl ⟨fun z => c_13 (by rw [z]; rfl), rfl⟩⟩, mF.th⟩
end
