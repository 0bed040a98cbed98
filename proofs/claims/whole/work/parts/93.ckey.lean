/-! MinuteBook: the keyword, strokes; rows that lie in static fields -/
section MBstat
variable {K : mbK} {pc q : Nat} {ls : List (Option gV)} {st : List gV} {sh : mbSh} {ct : mbCt}
theorem g_gets {C n d : String} {idx : Nat} {z : Int} (hl : Cond.fieldLink K.1.1.cls idx C n d ∈ mbTB) (hz : ∀ (E : mbE) (U : State) (H : Heap), mbX E U H → va_Z C n d (rvE E z) (fun q => E.2.2.1 ≤ q) U H) (hd : decode K.1.2.1 pc = .ok (.getstatic idx, 3)) (hq : pc + 3 = q) (k : G K q ls (.inr (.inr z) :: st) sh ct) : G K pc ls st sh ct := by
  subst hq
  intro p l e s m args below meth c E C0 H locs lsv R
  obtain ⟨cf, kf, fi, f, a, cell, h1, h2, h3, h4, h5, h6, h7, h8⟩ := hz E s s.heap C0.si.2.2
  exact W.gets C0.1 C0.2.1 C0.own (C0.tb _ hl) h1 h2 h3 h4 (by rw [R.2.1 a (Nat.lt_of_not_le h8)]; exact h5) (fun e => by rw [e] at h6; cases h6) h7 rfl hd (k p l e s m args below meth c E C0 H locs lsv R)
theorem g_ialdS {i z : Int} {l0 : List Int} (hz : ∀ (E : mbE) (U : State) (H : Heap), mbX E U H → ∃ t : Nat, rvE E z = .ref t ∧ va_T .int t 11 (fun j => .int (Int32.ofInt (l0.getD j 0))) (fun q => E.2.2.1 ≤ q) U H) (h0 : 0 ≤ i) (h1 : i < 11) (hd : decode K.1.2.1 pc = .ok (.iaload, 1)) (hq : pc + 1 = q) (k : G K q ls (.inl (l0.getD i.toNat 0) :: st) sh ct) : G K pc ls (.inl i :: .inr (.inr z) :: st) sh ct := by
  subst hq
  intro p l e s m args below meth c E C0 H locs lsv R
  have h := k p l e s m args below meth c E C0 H locs lsv R
  obtain ⟨t, ht, cell, g1, g2, g3, g4, g5, g6, g7⟩ := hz E s s.heap C0.si.2.2
  have hw : w32 i = i := w32_id (by omega) (by omega)
  obtain ⟨hin, hcl⟩ := mb_in (i := i) (n := 11) (by rw [hw]; exact h0) (by rw [hw]; exact h1)
  rw [hw] at hcl
  show W p l e _ s m args below meth c H locs _ _ _ (F0 m pc lsv (.int (Int32.ofInt i) :: rvE E z :: st.map (tv E)))
  rw [ht]
  have hin' : ¬ (Int32.ofInt i < 0 ∨ cell.slots.size ≤ (Int32.ofInt i).toNatClampNeg) := by
    rintro (q | q)
    · exact hin (Or.inl q)
    · exact hin (Or.inr (by omega))
  refine W.iald (v := .int (Int32.ofInt (l0.getD i.toNat 0))) C0.1 C0.2.1 (by rw [R.2.1 t (Nat.lt_of_not_le g7)]; exact g1) g2 g3 hin' ?_ rfl rfl hd h
  rw [hcl, g6 _ (by omega)]
end MBstat
theorem kX11_391 : Cond.fieldLink RX11 391 RX11 "PASSES_ABOVE" "[I" ∈ mbTB := mb_tb 1273 (by decide +kernel) rfl
theorem kX11_397 : Cond.fieldLink RX11 397 RX11 "PASSES_BELOW" "[I" ∈ mbTB := mb_tb 1275 (by decide +kernel) rfl
theorem rv_m5 (E : mbE) : rvE E (-5) = .ref (E.2.2.2 3) := rfl
theorem rv_m6 (E : mbE) : rvE E (-6) = .ref (E.2.2.2 4) := rfl
theorem mbX.ab (E : mbE) (U : State) (H : Heap) (h : mbX E U H) : va_Z RX11 "PASSES_ABOVE" "[I" (rvE E (-5)) (fun q => E.2.2.1 ≤ q) U H := h.2.2.2.1.1
theorem mbX.be (E : mbE) (U : State) (H : Heap) (h : mbX E U H) : va_Z RX11 "PASSES_BELOW" "[I" (rvE E (-6)) (fun q => E.2.2.1 ≤ q) U H := h.2.2.2.1.2.1
theorem mbX.abT (E : mbE) (U : State) (H : Heap) (h : mbX E U H) : ∃ t : Nat, rvE E (-5) = .ref t ∧ va_T .int t 11 (fun j => .int (Int32.ofInt (mbAb.getD j 0))) (fun q => E.2.2.1 ≤ q) U H := ⟨_, rfl, h.2.2.2.2.1⟩
theorem mbX.beT (E : mbE) (U : State) (H : Heap) (h : mbX E U H) : ∃ t : Nat, rvE E (-6) = .ref t ∧ va_T .int t 11 (fun j => .int (Int32.ofInt (mbBe.getD j 0))) (fun q => E.2.2.1 ≤ q) U H := ⟨_, rfl, h.2.2.2.2.2.1⟩
def upK (x : Int) : Int := if x = 268435456 then 1000000 else x

section
variable (d : Nat) (sh : mbSh) (ct : mbCt) {b : Int} {β : Bk} {s : Sit} {q : Int} {N : Nat} {V : Int}
theorem upK_lt {x y : Int} (h1 : x = 268435456 ∨ x ≤ 19201) (h2 : y = 268435456 ∨ y ≤ 19201) : upK x ≤ upK y ↔ x ≤ y := by
  unfold upK
  (repeat' split) <;> omega
theorem upK_rg {x : Int} (h : -1 ≤ x) (h2 : x = 268435456 ∨ x ≤ 19201) : -1 ≤ upK x ∧ upK x ≤ 1000000 := by
  unfold upK
  split <;> omega
theorem kwS_P {P : Int → Prop} {L : Nat → Int} {now : Int} (h0 : P now) : ∀ k, (∀ s, s < k → P (L s)) → P (kwS L now k).2
  | 0, _ => h0
  | k + 1, h => by
    have ih := kwS_P h0 k (fun s hs => h s (by omega))
    have hk := h k (by omega)
    unfold kwS
    split
    · exact ih
    · exact hk
theorem kwS_set {LL : Nat → Int} {r v : Int} {s : Int} (hs : 0 ≤ s) : kwS (fun k => if k = s.toNat then v else LL k) r (s + 1).toNat = if v ≤ (kwS LL r s.toNat).2 then kwS LL r s.toNat else ((s.toNat : Int), v) := by
  have same : kwS (fun k => if k = s.toNat then v else LL k) r s.toNat = kwS LL r s.toNat := kwS_cg (fun k hk => by show (if k = s.toNat then _ else _) = _; rw [if_neg (by omega)])
  rw [show (s + 1).toNat = s.toNat + 1 by omega]
  show (if (if s.toNat = s.toNat then v else LL s.toNat) ≤ _ then _ else _) = _
  rw [same]
  simp
theorem x_keyword (S : SH sh) (X : CX sh ct b β s q N V) (hV : V + 20 < 900000) : Mt YX11_keyword (d + 6) [.inr (.inr 0)] sh sh ct (pI fun r c => qKey β s.2.2 s.1 r ∧ CX sh c b β s q N (V + 20) ∧ kF q ct c) := by
  have hsay := X.2.2.1.2.2.2.2.2.1
  generalize hP : (pI fun r c => qKey β s.2.2 s.1 r ∧ CX sh c b β s q N (V + 20) ∧ kF q ct c) = Po
  refine Mt.of rfl (Nat.le_of_ble_eq_true rfl) ?_
  show G _ 0 [some (.inr (.inr 0)), none, none, none, none, none] [] sh ct
  refine g_aload_n (q := 1) dX11_keyword_0 rfl rfl ?_
  refine g_iconst (q := 2) dX11_keyword_1 rfl ?_
  refine g_ldc2 (q := 5) dX11_keyword_2 kX11_255 rfl ?_
  refine g_callV (q := 8) lX11_257 mX11_shortestBy nX11_shortestBy rfl (x_shortestBy d sh _ S X (by omega) (by decide) (by decide)) (by first | assumption | exact S.at _ rfl) rfl rfl shLe.rf (rmOk.mk (by omega) (by first | exact shLe.rf | assumption)) (Nat.le_of_ble_eq_true rfl) dX11_keyword_5 rfl rfl (kI fun r c1 hp => ?_)
  obtain ⟨B, Y, f1⟩ := hp
  have hw := B.way use_all
  have hge := B.lt Y.2.2.2.1.2.2.1.1.2.2.1.2
  refine s_istore_n_6_1 (q := 9) dX11_keyword_8 rfl rfl rfl ?_
  refine g_iconst (q := 10) dX11_keyword_9 rfl ?_
  refine s_istore_n_6_2 (q := 11) dX11_keyword_10 rfl rfl rfl ?_
  refine g_iload_n (q := 12) dX11_keyword_11 rfl rfl ?_
  refine g_iconst (q := 13) dX11_keyword_12 rfl ?_
  refine g_icmp_eq (q := 16) (tg := 78) dX11_keyword_13 (by decide) rfl (fun c_13 => ?_) (fun c_13 => ?_)
  · refine g_iload_n (q := 79) dX11_keyword_78 rfl rfl ?_
    refine g_ireturn dX11_keyword_79 rfl ?_
    rw [← hP]
    exact ⟨_, rfl, Or.inl ⟨hw.none.mp (by unfold w32 at c_13; omega), rfl⟩, Y.x.up (by omega) hV, f1⟩
  · have hany : anyW β s.2.2 s.1 (-1) (-1) 9 (-1) 0 := by
      apply Classical.byContradiction
      intro z
      exact c_13 (by rw [hw.none.mpr z])
    refine g_iload_n (q := 17) dX11_keyword_16 rfl rfl ?_
    refine s_istore_n_6_3 (q := 18) dX11_keyword_17 rfl rfl rfl ?_
    refine g_iconst (q := 19) dX11_keyword_18 rfl ?_
    refine s_istore_6_4 (q := 21) dX11_keyword_19 rfl rfl rfl ?_
    refine g_forA (α := (Nat → Int)) (fun i LL => [some (.inr (.inr 0)), some (.inl r), some (.inl (kwS LL r i.toNat).1), some (.inl (upK (kwS LL r i.toNat).2)), some (.inl i), none]) (fun i LL c => 0 ≤ i ∧ CX sh c b β s q N (V + 1 + i) ∧ kF q ct c ∧ ∀ k : Nat, (k : Int) < i → ∃ v, wyS β s.2.2 s.1 (-1) k 9 (-1) 0 v ∧ (-1 ≤ v ∧ v ≤ 19201) ∧ LL k = lenN v) (β.n 3) ?_ ?_ (i := 0) (a := fun _ => 0) (by omega) ⟨by omega, by rw [Int.add_zero]; exact Y.x, f1, fun k hk => by omega⟩ (by simp [lsSub, kwS, upK]; omega)
    · rintro i LL c hi ⟨i0, X1, f, hv⟩ kk
      have h02 := X1.1
      have sb := (X1.bb S).1
      have hn3 := X1.n 3
      have hin := kwS_in (L := LL) (now := r) ⟨hge.1, by omega⟩ i.toNat (fun k hk => by
        obtain ⟨v, h1, h2, h3⟩ := hv k (by omega)
        rw [h3]
        unfold lenN
        split <;> omega)
      have hin2 : (kwS LL r i.toNat).2 = 268435456 ∨ (kwS LL r i.toNat).2 ≤ 19201 := kwS_P (P := fun x => x = 268435456 ∨ x ≤ 19201) (Or.inr hge.2) i.toNat (fun k hk => by
        obtain ⟨v, h1, h2, h3⟩ := hv k (by omega)
        show LL k = 268435456 ∨ LL k ≤ 19201
        rw [h3]
        unfold lenN
        split <;> omega)
      refine g_iload (q := 23) dX11_keyword_21 rfl rfl ?_
      refine g_aload_n (q := 24) dX11_keyword_23 rfl rfl ?_
      refine g_getO (q := 27) (kI := 2) fX11_20 (by first | assumption | exact S.at _ rfl) dX11_keyword_24 rfl rfl (by first | assumption | exact L.at _ _ rfl | exact LK.at (by assumption) _ _ rfl | ((repeat first | rewrite [wr_na (by decide)] | rewrite [wr_nk (by decide)] | rewrite [wa_na (by decide)]); first | assumption | exact LK.at (by assumption) _ _ rfl) | exact rfl) ?_
      refine g_getI (q := 30) (kI := 3) fX11_313 (by first | assumption | exact S.at _ rfl) dX11_keyword_27 rfl rfl ?_
      refine g_icmp_ge (q := 33) (tg := 78) dX11_keyword_30 (by decide) rfl (fun c_30 => ?_) (fun c_30 => ?_)
      · rw [hn3] at c_30
        exact absurd c_30 (by unfold w32; omega)
      · refine g_aload_n (q := 34) dX11_keyword_33 rfl rfl ?_
        refine g_iconst (q := 35) dX11_keyword_34 rfl ?_
        refine g_iload (q := 37) dX11_keyword_35 rfl rfl ?_
        refine g_callS (q := 40) lX11_168 mX11_sayingBits sX11_sayingBits rfl (x_sayingBits (d + 5) sh _) shLe.rf (rmOk.mk (by omega) (by first | exact shLe.rf | assumption)) (Nat.le_of_ble_eq_true rfl) dX11_keyword_37 rfl rfl (kL fun r_ c_ hp => ?_)
        obtain ⟨hr, hq⟩ := hp
        replace hr := hr.symm
        replace hq := hq.symm
        subst hr hq
        refine g_ldc2 (q := 43) dX11_keyword_40 kX11_240 rfl ?_
        refine g_lxor (q := 44) dX11_keyword_43 rfl ?_
        refine g_callV (q := 47) lX11_257 mX11_shortestBy nX11_shortestBy rfl (x_shortestBy d sh _ S X1 (by omega) (by decide) (by decide)) (by first | assumption | exact S.at _ rfl) rfl rfl shLe.rf (rmOk.mk (by omega) (by first | exact shLe.rf | assumption)) (Nat.le_of_ble_eq_true rfl) dX11_keyword_44 rfl rfl (kI fun r2 c2 hp => ?_)
        obtain ⟨B2, Y2, f2⟩ := hp
        have hw2 := B2.way (use_say i0 (by omega))
        have hge2 := B2.lt Y2.2.2.2.1.2.2.1.1.2.2.1.2
        have hll : -1 ≤ lenN r2 ∧ (lenN r2 = 268435456 ∨ lenN r2 ≤ 19201) := by
          unfold lenN
          split <;> omega
        have nxt : G (mkK YX11_keyword (d + 6) sh sh Po) 60 [some (.inr (.inr 0)), some (.inl r), some (.inl (kwS LL r i.toNat).1), some (.inl (upK (kwS LL r i.toNat).2)), some (.inl i), some (.inl (upK (lenN r2)))] [] sh c2 := by
          have hu1 := upK_rg hll.1 hll.2
          have hu2 := upK_rg hin.2.1 hin2
          have inv : ∀ LL2 : Nat → Int, LL2 = (fun k => if k = i.toNat then lenN r2 else LL k) → (0 ≤ i + 1 ∧ CX sh c2 b β s q N (V + 1 + (i + 1)) ∧ kF q ct c2 ∧ ∀ k : Nat, (k : Int) < i + 1 → ∃ v, wyS β s.2.2 s.1 (-1) k 9 (-1) 0 v ∧ (-1 ≤ v ∧ v ≤ 19201) ∧ LL2 k = lenN v) := by
            rintro LL2 rfl
            refine ⟨by omega, by rw [show V + 1 + (i + 1) = V + 1 + i + 1 by omega]; exact Y2.x, f.tr f2, fun k hk => ?_⟩
            by_cases hke : k = i.toNat
            · subst hke
              refine ⟨r2, ?_, hge2, by simp⟩
              rw [show ((i.toNat : Nat) : Int) = i by omega]
              exact hw2
            · obtain ⟨v, h1, h2, h3⟩ := hv k (by omega)
              exact ⟨v, h1, h2, by show (if k = i.toNat then _ else _) = _; rw [if_neg hke]; exact h3⟩
          have stp := kwS_set (LL := LL) (r := r) (v := lenN r2) i0
          refine g_iload (q := 62) dX11_keyword_60 rfl rfl ?_
          refine g_iload_n (q := 63) dX11_keyword_62 rfl rfl ?_
          refine g_icmp_le (q := 66) (tg := 72) dX11_keyword_63 (by decide) rfl (fun c_63 => ?_) (fun c_63 => ?_)
          · have hle : lenN r2 ≤ (kwS LL r i.toNat).2 := (upK_lt hll.2 hin2).mp (by unfold w32 at c_63; omega)
            rw [if_pos hle] at stp
            refine s_iinc_6_4 (q := 75) dX11_keyword_72 rfl rfl rfl ?_
            refine g_goto (q := 21) dX11_keyword_75 (by decide) ?_
            refine kk (fun k => if k = i.toNat then lenN r2 else LL k) _ _ ?_ (inv _ rfl)
            rw [stp]
            simp [lsSub]
          · have hgt : ¬ lenN r2 ≤ (kwS LL r i.toNat).2 := fun z => by
              have := (upK_lt hll.2 hin2).mpr z
              unfold w32 at c_63
              omega
            rw [if_neg hgt] at stp
            refine g_iload (q := 68) dX11_keyword_66 rfl rfl ?_
            refine s_istore_n_6_3 (q := 69) dX11_keyword_68 rfl rfl rfl ?_
            refine g_iload (q := 71) dX11_keyword_69 rfl rfl ?_
            refine s_istore_n_6_2 (q := 72) dX11_keyword_71 rfl rfl rfl ?_
            refine s_iinc_6_4 (q := 75) dX11_keyword_72 rfl rfl rfl ?_
            refine g_goto (q := 21) dX11_keyword_75 (by decide) ?_
            refine kk (fun k => if k = i.toNat then lenN r2 else LL k) _ _ ?_ (inv _ rfl)
            rw [stp]
            simp [lsSub]
            omega
        refine s_istore_6_5 (q := 49) dX11_keyword_47 rfl rfl rfl ?_
        refine g_iload (q := 51) dX11_keyword_49 rfl rfl ?_
        refine g_iconst (q := 52) dX11_keyword_51 rfl ?_
        refine g_icmp_ne (q := 55) (tg := 60) dX11_keyword_52 (by decide) rfl (fun c_52 => ?_) (fun c_52 => ?_)
        · have hne : r2 ≠ -1 := fun z => c_52 (by rw [z])
          rw [show upK (lenN r2) = r2 by unfold upK lenN; rw [if_neg hne, if_neg (by omega)]] at nxt
          exact nxt
        · have he : r2 = -1 := by unfold w32 at c_52; omega
          refine g_ldcw (q := 58) dX11_keyword_55 kX11_316 rfl ?_
          refine s_istore_6_5 (q := 60) dX11_keyword_58 rfl rfl rfl ?_
          rw [show upK (lenN r2) = 1000000 by unfold upK lenN; rw [if_pos he, if_pos rfl]] at nxt
          exact nxt
    · rintro LL c ⟨-, X1, f, hv⟩
      have h02 := X1.1
      have sb := (X1.bb S).1
      have hn3 := X1.n 3
      refine g_iload (q := 23) dX11_keyword_21 rfl rfl ?_
      refine g_aload_n (q := 24) dX11_keyword_23 rfl rfl ?_
      refine g_getO (q := 27) (kI := 2) fX11_20 (by first | assumption | exact S.at _ rfl) dX11_keyword_24 rfl rfl (by first | assumption | exact L.at _ _ rfl | exact LK.at (by assumption) _ _ rfl | ((repeat first | rewrite [wr_na (by decide)] | rewrite [wr_nk (by decide)] | rewrite [wa_na (by decide)]); first | assumption | exact LK.at (by assumption) _ _ rfl) | exact rfl) ?_
      refine g_getI (q := 30) (kI := 3) fX11_313 (by first | assumption | exact S.at _ rfl) dX11_keyword_27 rfl rfl ?_
      refine g_icmp_ge (q := 33) (tg := 78) dX11_keyword_30 (by decide) rfl (fun c_30 => ?_) (fun c_30 => ?_)
      · refine g_iload_n (q := 79) dX11_keyword_78 rfl rfl ?_
        refine g_ireturn dX11_keyword_79 rfl ?_
        rw [← hP]
        refine ⟨_, rfl, Or.inr ⟨hany, LL, r, hw, fun k hk => ?_, rfl⟩, X1.up (by omega) hV, f⟩
        obtain ⟨v, h1, h2, h3⟩ := hv k hk
        exact ⟨v, h1, h3⟩
      · rw [hn3] at c_30
        exact absurd c_30 (Int.lt_irrefl _)
theorem x_strokesThatCount {m : Int} (S : SH sh) (X : CX sh ct b β s q N V) (h0 : -1 ≤ m) (h1 : m ≤ 100000) : Mt YX11_strokesThatCount (d + 1) [.inr (.inr 0), .inl m] sh sh ct (pI fun r c => r = badV (β.n 4) m ∧ c = ct) := by
  have h02 := X.1
  have sb := (X.bb S).1
  have hn4 := X.n 4
  have hb4 := X.2.2.1.2.2.2.2.2.2.1
  refine Mt.of rfl (Nat.le_of_ble_eq_true rfl) ?_
  show G _ 0 [some (.inr (.inr 0)), some (.inl m), none] [] sh ct
  refine g_iload_n (q := 1) dX11_strokesThatCount_0 rfl rfl ?_
  refine g_iconst (q := 2) dX11_strokesThatCount_1 rfl ?_
  refine g_isub (q := 3) dX11_strokesThatCount_2 rfl ?_
  refine g_iconst (q := 4) dX11_strokesThatCount_3 rfl ?_
  refine g_mmax (q := 7) lX11_406 tb_mmaxS tb_mI tb_mmaxC (rmOk.mk (by omega) (by first | exact shLe.rf | assumption)) (Nat.le_of_ble_eq_true rfl) dX11_strokesThatCount_4 rfl ?_
  refine s_istore_n_3_2 (q := 8) dX11_strokesThatCount_7 rfl rfl rfl ?_
  refine g_aload_n (q := 9) dX11_strokesThatCount_8 rfl rfl ?_
  refine g_getO (q := 12) (kI := 2) fX11_20 (by first | assumption | exact S.at _ rfl) dX11_strokesThatCount_9 rfl rfl (by first | assumption | exact L.at _ _ rfl | exact LK.at (by assumption) _ _ rfl | ((repeat first | rewrite [wr_na (by decide)] | rewrite [wr_nk (by decide)] | rewrite [wa_na (by decide)]); first | assumption | exact LK.at (by assumption) _ _ rfl) | exact rfl) ?_
  refine g_getI (q := 15) (kI := 4) fX11_394 (by first | assumption | exact S.at _ rfl) dX11_strokesThatCount_12 rfl rfl ?_
  refine g_if_ne (q := 18) (tg := 20) dX11_strokesThatCount_15 (by decide) rfl (fun c_15 => ?_) (fun c_15 => ?_)
  · refine g_aload_n (q := 21) dX11_strokesThatCount_20 rfl rfl ?_
    refine g_getO (q := 24) (kI := 2) fX11_20 (by first | assumption | exact S.at _ rfl) dX11_strokesThatCount_21 rfl rfl (by first | assumption | exact L.at _ _ rfl | exact LK.at (by assumption) _ _ rfl | ((repeat first | rewrite [wr_na (by decide)] | rewrite [wr_nk (by decide)] | rewrite [wa_na (by decide)]); first | assumption | exact LK.at (by assumption) _ _ rfl) | exact rfl) ?_
    refine g_getI (q := 27) (kI := 4) fX11_394 (by first | assumption | exact S.at _ rfl) dX11_strokesThatCount_24 rfl rfl ?_
    refine g_bipush (q := 29) dX11_strokesThatCount_27 (by decide +kernel) rfl ?_
    refine g_icmp_ne (q := 32) (tg := 40) dX11_strokesThatCount_29 (by decide) rfl (fun c_29 => ?_) (fun c_29 => ?_)
    · refine g_iload_n (q := 41) dX11_strokesThatCount_40 rfl rfl ?_
      refine g_ireturn dX11_strokesThatCount_41 rfl ?_
      refine ⟨_, rfl, ?_, rfl⟩; rw [hn4] at *; unfold badV linesV; unfold w32 at *; (repeat' split) <;> omega
    · refine g_iload_n (q := 33) dX11_strokesThatCount_32 rfl rfl ?_
      refine g_iconst (q := 34) dX11_strokesThatCount_33 rfl ?_
      refine g_mmin (q := 37) lX11_371 tb_mminS tb_mI tb_mminC (rmOk.mk (by omega) (by first | exact shLe.rf | assumption)) (Nat.le_of_ble_eq_true rfl) dX11_strokesThatCount_34 rfl ?_
      refine g_goto (q := 41) dX11_strokesThatCount_37 (by decide) ?_
      refine g_ireturn dX11_strokesThatCount_41 rfl ?_
      refine ⟨_, rfl, ?_, rfl⟩; rw [hn4] at *; unfold badV linesV; unfold w32 at *; (repeat' split) <;> omega
  · refine g_iconst (q := 19) dX11_strokesThatCount_18 rfl ?_
    refine s_istore_n_3_2 (q := 20) dX11_strokesThatCount_19 rfl rfl rfl ?_
    refine g_aload_n (q := 21) dX11_strokesThatCount_20 rfl rfl ?_
    refine g_getO (q := 24) (kI := 2) fX11_20 (by first | assumption | exact S.at _ rfl) dX11_strokesThatCount_21 rfl rfl (by first | assumption | exact L.at _ _ rfl | exact LK.at (by assumption) _ _ rfl | ((repeat first | rewrite [wr_na (by decide)] | rewrite [wr_nk (by decide)] | rewrite [wa_na (by decide)]); first | assumption | exact LK.at (by assumption) _ _ rfl) | exact rfl) ?_
    refine g_getI (q := 27) (kI := 4) fX11_394 (by first | assumption | exact S.at _ rfl) dX11_strokesThatCount_24 rfl rfl ?_
    refine g_bipush (q := 29) dX11_strokesThatCount_27 (by decide +kernel) rfl ?_
    refine g_icmp_ne (q := 32) (tg := 40) dX11_strokesThatCount_29 (by decide) rfl (fun c_29 => ?_) (fun c_29 => ?_)
    · refine g_iload_n (q := 41) dX11_strokesThatCount_40 rfl rfl ?_
      refine g_ireturn dX11_strokesThatCount_41 rfl ?_
      refine ⟨_, rfl, ?_, rfl⟩; rw [hn4] at *; unfold badV linesV; unfold w32 at *; (repeat' split) <;> omega
    · refine g_iload_n (q := 33) dX11_strokesThatCount_32 rfl rfl ?_
      refine g_iconst (q := 34) dX11_strokesThatCount_33 rfl ?_
      refine g_mmin (q := 37) lX11_371 tb_mminS tb_mI tb_mminC (rmOk.mk (by omega) (by first | exact shLe.rf | assumption)) (Nat.le_of_ble_eq_true rfl) dX11_strokesThatCount_34 rfl ?_
      refine g_goto (q := 41) dX11_strokesThatCount_37 (by decide) ?_
      refine g_ireturn dX11_strokesThatCount_41 rfl ?_
      refine ⟨_, rfl, ?_, rfl⟩; rw [hn4] at *; unfold badV linesV; unfold w32 at *; (repeat' split) <;> omega
theorem stk_rg : ∀ s : Fin 11, 0 ≤ mbAb.getD s.val 0 ∧ mbAb.getD s.val 0 ≤ 10 ∧ 0 ≤ mbBe.getD s.val 0 ∧ mbBe.getD s.val 0 ≤ 10 := by decide
theorem x_stroke {tone w : Int} (S : SH sh) (X : CX sh ct b β s q N V) (hV : V + 1 < 900000) (ht : i32 tone) (hw : i32 w) : Mt YX11_stroke (d + 6) [.inr (.inr 0), .inl tone, .inl w] sh sh ct (pL fun r c => qStroke β s.2.2 s.1 tone w r ∧ CX sh c b β s q N (V + 1) ∧ kF q ct c) := by
  have hb4 := X.2.2.1.2.2.2.2.2.2.1
  generalize hP : (pL fun r c => qStroke β s.2.2 s.1 tone w r ∧ CX sh c b β s q N (V + 1) ∧ kF q ct c) = Po
  have body : (w = 0 ∨ w = 1) → G (mkK YX11_stroke (d + 6) sh sh Po) 13 [some (.inr (.inr 0)), some (.inl tone), some (.inl w), none, none, none, none, none] [] sh ct := by
    intro hw01
    refine g_iload_n (q := 14) dX11_stroke_13 rfl rfl ?_
    refine g_callS (q := 17) lX11_252 mX11_isTone sX11_isTone rfl (x_isTone (d + 5) sh _ ht) shLe.rf (rmOk.mk (by omega) (by first | exact shLe.rf | assumption)) (Nat.le_of_ble_eq_true rfl) dX11_stroke_14 rfl rfl (kI fun r_ c_ hp => ?_)
    obtain ⟨hr, hq⟩ := hp
    replace hr := hr.symm
    replace hq := hq.symm
    subst hr hq
    refine g_if_ne (q := 20) (tg := 24) dX11_stroke_17 (by decide) rfl (fun c_17 => ?_) (fun c_17 => ?_)
    · have htn := wbn.mp c_17
      refine g_aload_n (q := 25) dX11_stroke_24 rfl rfl ?_
      refine g_iload_n (q := 26) dX11_stroke_25 rfl rfl ?_
      refine g_ldc2 (q := 29) dX11_stroke_26 kX11_255 rfl ?_
      refine g_callV (q := 32) lX11_257 mX11_shortestBy nX11_shortestBy rfl (x_shortestBy d sh _ S X (by omega) htn.1 (by have := htn.2; omega)) (by first | assumption | exact S.at _ rfl) rfl rfl shLe.rf (rmOk.mk (by omega) (by first | exact shLe.rf | assumption)) (Nat.le_of_ble_eq_true rfl) dX11_stroke_29 rfl rfl (kI fun r c1 hp => ?_)
      obtain ⟨B, Y, f1⟩ := hp
      have hwy := B.way use_all
      have hge := B.lt Y.2.2.2.1.2.2.1.1.2.2.1.2
      have h02 := Y.1
      have sb := (Y.x.bb S).1
      have hn4 : c1 b 4 = β.n 4 := Y.x.n 4
      refine s_istore_n_8_3 (q := 33) dX11_stroke_32 rfl rfl rfl ?_
      refine g_iload_n (q := 34) dX11_stroke_33 rfl rfl ?_
      refine g_bipush (q := 36) dX11_stroke_34 (by decide +kernel) rfl ?_
      refine g_icmp_le (q := 39) (tg := 43) dX11_stroke_36 (by decide) rfl (fun c_36 => ?_) (fun c_36 => ?_)
      · have hle : r ≤ 16 := by unfold w32 at c_36; omega
        refine g_iload_n (q := 44) dX11_stroke_43 rfl rfl ?_
        refine g_iconst (q := 45) dX11_stroke_44 rfl ?_
        refine g_icmp_ne (q := 48) (tg := 52) dX11_stroke_45 (by decide) rfl (fun c_45 => ?_) (fun c_45 => ?_)
        · have hne : r ≠ -1 := fun z => c_45 (by rw [z])
          have loop : ∀ P : Int, P = (if w = 0 then mbAb.getD (β.n 4).toNat 0 else mbBe.getD (β.n 4).toNat 0) → G (mkK YX11_stroke (d + 6) sh sh Po) 81 [some (.inr (.inr 0)), some (.inl tone), some (.inl w), some (.inl r), none, none, none, none] [.inl P] sh c1 := by
            intro P hPP
            have hPr : w32 P = P := by
              have := stk_rg ⟨(β.n 4).toNat, by omega⟩
              apply w32_id
              · rw [hPP]
                split <;> simp only at this <;> omega
              · rw [hPP]
                split <;> simp only at this <;> omega
            have fin : ∀ k : Nat, k = linesV r → G (mkK YX11_stroke (d + 6) sh sh Po) 109 [some (.inr (.inr 0)), some (.inl tone), some (.inl w), some (.inl r), some (.inl P), some (.inr (.inl (P ^ k))), none, none] [] sh c1 := by
              rintro k rfl
              refine g_lload (q := 111) dX11_stroke_109 rfl rfl ?_
              refine g_lreturn dX11_stroke_111 rfl ?_
              rw [← hP]
              refine ⟨_, rfl, Or.inr (Or.inr ⟨hw01, htn, r, hwy, Or.inr (Or.inr ⟨hne, hle, ?_⟩)⟩), Y.x, f1⟩
              unfold stkV
              rw [← hPP]
            have lp : ∀ (k : Nat) (i : Int), 1 ≤ i → i + k = (if 1 < r then r else 1) → G (mkK YX11_stroke (d + 6) sh sh Po) 89 [some (.inr (.inr 0)), some (.inl tone), some (.inl w), some (.inl r), some (.inl P), some (.inr (.inl (P ^ (i - 1).toNat))), none, some (.inl i)] [] sh c1 := by
              intro k
              induction k with
              | zero =>
                intro i i1 hi
                refine g_iload (q := 91) dX11_stroke_89 rfl rfl ?_
                refine g_iload_n (q := 92) dX11_stroke_91 rfl rfl ?_
                refine g_icmp_ge (q := 95) (tg := 109) dX11_stroke_92 (by decide) rfl (fun c_92 => ?_) (fun c_92 => ?_)
                · have := fin (i - 1).toNat (by unfold linesV; split at hi <;> split <;> omega)
                  exact g_fg (by simp [lsSub]) this
                · exfalso
                  unfold w32 at c_92
                  split at hi <;> omega
              | succ k ih =>
                intro i i1 hi
                have hr : i < r := by split at hi <;> omega
                refine g_iload (q := 91) dX11_stroke_89 rfl rfl ?_
                refine g_iload_n (q := 92) dX11_stroke_91 rfl rfl ?_
                refine g_icmp_ge (q := 95) (tg := 109) dX11_stroke_92 (by decide) rfl (fun c_92 => ?_) (fun c_92 => ?_)
                · exact absurd c_92 (by unfold w32; omega)
                · refine g_lload (q := 97) dX11_stroke_95 rfl rfl ?_
                  refine g_iload (q := 99) dX11_stroke_97 rfl rfl ?_
                  refine g_i2l (q := 100) dX11_stroke_99 rfl ?_
                  refine g_lmul (q := 101) dX11_stroke_100 rfl ?_
                  refine s_lstore_8_5 (q := 103) dX11_stroke_101 rfl rfl rfl ?_
                  refine s_iinc_8_7 (q := 106) dX11_stroke_103 rfl rfl rfl ?_
                  refine g_goto (q := 89) dX11_stroke_106 (by decide) ?_
                  have := ih (i + 1) (by omega) (by omega)
                  rw [show (i + 1 - 1).toNat = (i - 1).toNat + 1 by omega, Int.pow_succ] at this
                  rw [hPr]
                  exact this
            refine s_istore_8_4 (q := 83) dX11_stroke_81 rfl rfl rfl ?_
            refine g_lconst1 (q := 84) dX11_stroke_83 rfl ?_
            refine s_lstore_8_5 (q := 86) dX11_stroke_84 rfl rfl rfl ?_
            refine g_iconst (q := 87) dX11_stroke_86 rfl ?_
            refine s_istore_8_7 (q := 89) dX11_stroke_87 rfl rfl rfl ?_
            have := lp ((if 1 < r then r else 1) - 1).toNat 1 (by omega) (by split <;> omega)
            rw [show (1 - 1 : Int).toNat = 0 from rfl, Int.pow_zero] at this
            exact this
          refine g_iload_n (q := 53) dX11_stroke_52 rfl rfl ?_
          refine g_if_ne (q := 56) (tg := 70) dX11_stroke_53 (by decide) rfl (fun c_53 => ?_) (fun c_53 => ?_)
          · have hw0 : w ≠ 0 := fun z => c_53 (by rw [z]; rfl)
            refine g_gets (q := 73) (z := -6) kX11_397 mbX.be dX11_stroke_70 rfl ?_
            refine g_aload_n (q := 74) dX11_stroke_73 rfl rfl ?_
            refine g_getO (q := 77) (kI := 2) fX11_20 (by first | assumption | exact S.at _ rfl) dX11_stroke_74 rfl rfl (by first | assumption | exact L.at _ _ rfl | exact LK.at (by assumption) _ _ rfl | ((repeat first | rewrite [wr_na (by decide)] | rewrite [wr_nk (by decide)] | rewrite [wa_na (by decide)]); first | assumption | exact LK.at (by assumption) _ _ rfl) | exact rfl) ?_
            refine g_getI (q := 80) (kI := 4) fX11_394 (by first | assumption | exact S.at _ rfl) dX11_stroke_77 rfl rfl ?_
            rw [hn4]
            refine g_ialdS (q := 81) (l0 := mbBe) mbX.beT (by omega) (by omega) dX11_stroke_80 rfl ?_
            exact loop _ (by rw [if_neg hw0])
          · have hw0 : w = 0 := by unfold i32 at hw; unfold w32 at c_53; omega
            refine g_gets (q := 59) (z := -5) kX11_391 mbX.ab dX11_stroke_56 rfl ?_
            refine g_aload_n (q := 60) dX11_stroke_59 rfl rfl ?_
            refine g_getO (q := 63) (kI := 2) fX11_20 (by first | assumption | exact S.at _ rfl) dX11_stroke_60 rfl rfl (by first | assumption | exact L.at _ _ rfl | exact LK.at (by assumption) _ _ rfl | ((repeat first | rewrite [wr_na (by decide)] | rewrite [wr_nk (by decide)] | rewrite [wa_na (by decide)]); first | assumption | exact LK.at (by assumption) _ _ rfl) | exact rfl) ?_
            refine g_getI (q := 66) (kI := 4) fX11_394 (by first | assumption | exact S.at _ rfl) dX11_stroke_63 rfl rfl ?_
            rw [hn4]
            refine g_ialdS (q := 67) (l0 := mbAb) mbX.abT (by omega) (by omega) dX11_stroke_66 rfl ?_
            refine g_goto (q := 81) dX11_stroke_67 (by decide) ?_
            exact loop _ (by rw [if_pos hw0])
        · have he : r = -1 := by unfold w32 at c_45; omega
          refine g_ldc2 (q := 51) dX11_stroke_48 kX11_240 rfl ?_
          refine g_lreturn dX11_stroke_51 rfl ?_
          rw [← hP]
          exact ⟨_, rfl, Or.inr (Or.inr ⟨hw01, htn, r, hwy, Or.inl ⟨he, rfl⟩⟩), Y.x, f1⟩
      · have hgt : 16 < r := by unfold w32 at c_36; omega
        refine g_ldc2 (q := 42) dX11_stroke_39 kX11_389 rfl ?_
        refine g_lreturn dX11_stroke_42 rfl ?_
        rw [← hP]
        exact ⟨_, rfl, Or.inr (Or.inr ⟨hw01, htn, r, hwy, Or.inr (Or.inl ⟨hgt, rfl⟩)⟩), Y.x, f1⟩
    · refine g_ldc2 (q := 23) dX11_stroke_20 kX11_264 rfl ?_
      refine g_lreturn dX11_stroke_23 rfl ?_
      rw [← hP]
      exact ⟨_, rfl, Or.inr (Or.inl ⟨hw01, wb0.mp c_17, rfl⟩), X.up (by omega) hV, kF.rf⟩
  unfold i32 at hw
  refine Mt.of rfl (Nat.le_of_ble_eq_true rfl) ?_
  show G _ 0 [some (.inr (.inr 0)), some (.inl tone), some (.inl w), none, none, none, none, none] [] sh ct
  refine g_iload_n (q := 1) dX11_stroke_0 rfl rfl ?_
  refine g_if_eq (q := 4) (tg := 13) dX11_stroke_1 (by decide) rfl (fun c_1 => ?_) (fun c_1 => ?_)
  · exact body (Or.inl (by unfold w32 at c_1; omega))
  · refine g_iload_n (q := 5) dX11_stroke_4 rfl rfl ?_
    refine g_iconst (q := 6) dX11_stroke_5 rfl ?_
    refine g_icmp_eq (q := 9) (tg := 13) dX11_stroke_6 (by decide) rfl (fun c_6 => ?_) (fun c_6 => ?_)
    · exact body (Or.inr (by unfold w32 at c_6; omega))
    · refine g_ldc2 (q := 12) dX11_stroke_9 kX11_387 rfl ?_
      refine g_lreturn dX11_stroke_12 rfl ?_
      rw [← hP]
      refine ⟨_, rfl, Or.inl ⟨?_, rfl⟩, X.up (by omega) hV, kF.rf⟩
      rintro (rfl | rfl)
      · exact c_1 rfl
      · exact c_6 rfl
theorem dep_lej {pr : Nat → Nat} : ∀ j, dep pr j ≤ j := by
  intro j
  induction j using Nat.strongRecOn with
  | ind j ih =>
    unfold dep
    split
    · rename_i hh
      have := ih _ hh.2
      omega
    · omega
theorem AL.way {c : mbCt} {n : Nat} {tone r : Int} (w : WayOk (scW β s.2.2 281474976710655 9 0) (goalW β tone 0) (s.1, 0) r) : wyS β s.2.2 s.1 (-1) (-1) 9 tone 0 r := by
  have e : (281474976710655 : Nat) = ((281474976710655 : Int) % 18446744073709551616).toNat := rfl
  rw [e, scW_use use_all (useN_ok (-1) (-1))] at w
  exact w
theorem AL.lt {c : mbCt} {n : Nat} {tone r : Int} (h : AL c β s q N n) (hN : N ≤ 19201) (w : WayOk (scW β s.2.2 281474976710655 9 0) (goalW β tone 0) (s.1, 0) r) : -1 ≤ r ∧ r ≤ 19201 := by
  obtain ⟨a1, a2, a3, B⟩ := h
  rcases w with ⟨rfl, -⟩ | ⟨m, rfl, hr, hm⟩
  · omega
  · obtain ⟨j, hj, hg⟩ := (B.1.ex (goalW β tone 0)).mp ⟨m, hr⟩
    have h1 := B.1.up (goal := goalW β tone 0) j hj 0 hg
    have h2 : ¬ (0 + dep (prQ c q) j < m) := fun z => hm _ z h1
    have h3 := dep_lej (pr := prQ c q) j
    omega
def upL (x : Int) : Int := if x = -268435456 then 1000000 else -x
set_option maxRecDepth 4000 in
theorem x_likeliest (S : SH sh) (X : CX sh ct b β s q N V) (hV : V + 1 < 900000) : Mt YX11_likeliest (d + 6) [.inr (.inr 0)] sh sh ct (pI fun r c => qLik β s.2.2 s.1 r ∧ CX sh c b β s q N (V + 1) ∧ kF q ct c) := by
  generalize hP : (pI fun r c => qLik β s.2.2 s.1 r ∧ CX sh c b β s q N (V + 1) ∧ kF q ct c) = Po
  refine Mt.of rfl (Nat.le_of_ble_eq_true rfl) ?_
  show G _ 0 [some (.inr (.inr 0)), none, none, none, none] [] sh ct
  refine g_aload_n (q := 1) dX11_likeliest_0 rfl rfl ?_
  refine g_callV (q := 4) lX11_290 mX11_exploreAll nX11_exploreAll rfl (x_exploreAll d sh _ S X hV) (by first | assumption | exact S.at _ rfl) rfl rfl shLe.rf (rmOk.mk (by omega) (by first | exact shLe.rf | assumption)) (Nat.le_of_ble_eq_true rfl) dX11_likeliest_1 rfl rfl (kN fun c1 hp => ?_)
  obtain ⟨⟨n, A⟩, Y, f1⟩ := hp
  have hN := Y.2.2.2.1.2.2.1.1.2.2.1.2
  refine g_iconst (q := 5) dX11_likeliest_4 rfl ?_
  refine s_istore_n_5_1 (q := 6) dX11_likeliest_5 rfl rfl rfl ?_
  refine g_ldcw (q := 9) dX11_likeliest_6 kX11_316 rfl ?_
  refine s_istore_n_5_2 (q := 10) dX11_likeliest_9 rfl rfl rfl ?_
  refine g_iconst (q := 11) dX11_likeliest_10 rfl ?_
  refine s_istore_n_5_3 (q := 12) dX11_likeliest_11 rfl rfl rfl ?_
  refine g_forA (α := (Nat → Int)) (fun t LL => [some (.inr (.inr 0)), some (.inl (kwS LL (-268435456) t.toNat).1), some (.inl (upL (kwS LL (-268435456) t.toNat).2)), some (.inl t), none]) (fun t LL c => 0 ≤ t ∧ CY sh c b β s q N (V + 1) ∧ kF q ct c ∧ AL c β s q N n ∧ (∀ k, LL k ≤ 0) ∧ ∀ k : Nat, (k : Int) < t → ∃ v, wyS β s.2.2 s.1 (-1) (-1) 9 k 0 v ∧ v ≤ 44800 ∧ LL k = lkL (β.n 4) v) 10 ?_ ?_ (i := 0) (a := fun _ => 0) (by omega) ⟨by omega, Y, f1, A, fun _ => Int.le_refl _, fun k hk => by omega⟩ (by simp [lsSub, kwS, upL])
  · rintro t LL c ht ⟨t0, Y2, f, A2, hle0, hv⟩ kk
    have hlo := kwS_lo (L := LL) (now := -268435456) t.toNat
    have hhi : (kwS LL (-268435456) t.toNat).2 ≤ 0 := by
      have : ∀ n, (kwS LL (-268435456) n).2 ≤ 0 := by
        intro n
        induction n with
        | zero => show (-268435456 : Int) ≤ 0; omega
        | succ n ih =>
          unfold kwS
          split
          · exact ih
          · exact hle0 n
      exact this _
    have et : ((t.toNat : Nat) : Int) = t := by omega
    have L2 := Y2.x.L
    refine g_iload_n (q := 13) dX11_likeliest_12 rfl rfl ?_
    refine g_bipush (q := 15) dX11_likeliest_13 (by decide +kernel) rfl ?_
    refine g_icmp_gt (q := 18) (tg := 59) dX11_likeliest_15 (by decide) rfl (fun c_15 => ?_) (fun c_15 => ?_)
    · exact absurd c_15 (by unfold w32; omega)
    · refine g_aload_n (q := 19) dX11_likeliest_18 rfl rfl ?_
      refine g_getO (q := 22) (kI := 12) fX11_88 (by first | assumption | exact S.at _ rfl) dX11_likeliest_19 rfl rfl (by first | assumption | exact L.at _ _ rfl | exact LK.at (by assumption) _ _ rfl | ((repeat first | rewrite [wr_na (by decide)] | rewrite [wr_nk (by decide)] | rewrite [wa_na (by decide)]); first | assumption | exact LK.at (by assumption) _ _ rfl) | exact rfl) ?_
      refine g_iload_n (q := 23) dX11_likeliest_22 rfl rfl ?_
      refine g_callV (q := 26) lX11_400 mX10_firstLength nX10_firstLength rfl (c_firstLength (d + 1) sh _ S Y2.2.2.2.1.1 Y2.2.2.2.1.2.2.1 A2 Y2.2.2.2.2.1 (by omega) (by omega)) (by first | assumption | exact S.at _ rfl) rfl rfl shLe.rf (rmOk.mk (by omega) (by first | exact shLe.rf | assumption)) (Nat.le_of_ble_eq_true rfl) dX11_likeliest_23 rfl rfl (kI fun v c2 hp => ?_)
      obtain ⟨hw2, m2⟩ := hp
      have hge2 := A2.lt hN hw2
      have Y3 := Y2.mvt m2
      have A3 : AL c2 β s q N n := A2.mv (m2.1 77 (by decide)) (m2.1 q (qc_far Y2.x.qc))
      have hbad := badV_in (s := β.n 4) (m := v) (by omega)
      have hlk0 : lkL (β.n 4) v ≤ 0 := by
        unfold lkL
        split <;> omega
      have inv : ∀ LL2 : Nat → Int, LL2 = (fun k => if k = t.toNat then lkL (β.n 4) v else LL k) → (0 ≤ t + 1 ∧ CY sh c2 b β s q N (V + 1) ∧ kF q ct c2 ∧ AL c2 β s q N n ∧ (∀ k, LL2 k ≤ 0) ∧ ∀ k : Nat, (k : Int) < t + 1 → ∃ v, wyS β s.2.2 s.1 (-1) (-1) 9 k 0 v ∧ v ≤ 44800 ∧ LL2 k = lkL (β.n 4) v) := by
        rintro LL2 rfl
        refine ⟨by omega, Y3, f.tr m2.k, A3, fun k => ?_, fun k hk => ?_⟩
        · show (if k = t.toNat then _ else _) ≤ 0
          split
          · exact hlk0
          · exact hle0 k
        · by_cases hke : k = t.toNat
          · subst hke
            refine ⟨v, ?_, by omega, by simp⟩
            rw [et]
            exact AL.way (c := c2) (n := n) hw2
          · obtain ⟨v', h1, h2, h3⟩ := hv k (by omega)
            exact ⟨v', h1, h2, by show (if k = t.toNat then _ else _) = _; rw [if_neg hke]; exact h3⟩
      have stp := kwS_set (LL := LL) (r := -268435456) (v := lkL (β.n 4) v) t0
      have skip' : lkL (β.n 4) v ≤ (kwS LL (-268435456) t.toNat).2 → ∀ o4, G (mkK YX11_likeliest (d + 6) sh sh Po) 53 [some (.inr (.inr 0)), some (.inl (kwS LL (-268435456) t.toNat).1), some (.inl (upL (kwS LL (-268435456) t.toNat).2)), some (.inl t), o4] [] sh c2 := by
        intro h o4
        rw [if_pos h] at stp
        refine s_iinc_5_3 (q := 56) dX11_likeliest_53 rfl rfl rfl ?_
        refine g_goto (q := 12) dX11_likeliest_56 (by decide) ?_
        refine kk (fun k => if k = t.toNat then lkL (β.n 4) v else LL k) _ _ ?_ (inv _ rfl)
        rw [stp]
        simp [lsSub]
      refine s_istore_5_4 (q := 28) dX11_likeliest_26 rfl rfl rfl ?_
      refine g_iload (q := 30) dX11_likeliest_28 rfl rfl ?_
      refine g_iconst (q := 31) dX11_likeliest_30 rfl ?_
      refine g_icmp_eq (q := 34) (tg := 53) dX11_likeliest_31 (by decide) rfl (fun c_31 => ?_) (fun c_31 => ?_)
      · have hv1 : v = -1 := by unfold w32 at c_31; omega
        refine skip' ?_ _
        unfold lkL
        rw [if_pos hv1]
        exact hlo
      · have hv1 : v ≠ -1 := fun z => c_31 (by rw [z])
        have hlk : lkL (β.n 4) v = -(badV (β.n 4) v) := by unfold lkL; rw [if_neg hv1]
        have hin2 : (kwS LL (-268435456) t.toNat).2 = -268435456 ∨ -100000 ≤ (kwS LL (-268435456) t.toNat).2 := kwS_P (P := fun x => x = -268435456 ∨ -100000 ≤ x) (Or.inl rfl) t.toNat (fun k hk => by
          obtain ⟨v', h1, h2, h3⟩ := hv k (by omega)
          have := badV_in (s := β.n 4) (m := v') (by omega)
          show LL k = -268435456 ∨ -100000 ≤ LL k
          rw [h3]
          unfold lkL
          split <;> omega)
        have hup : -1 ≤ upL (kwS LL (-268435456) t.toNat).2 ∧ upL (kwS LL (-268435456) t.toNat).2 ≤ 1000000 := by
          unfold upL
          split <;> omega
        have hcmp : badV (β.n 4) v < upL (kwS LL (-268435456) t.toNat).2 ↔ ¬ lkL (β.n 4) v ≤ (kwS LL (-268435456) t.toNat).2 := by
          rw [hlk]
          unfold upL
          split <;> omega
        refine g_aload_n (q := 35) dX11_likeliest_34 rfl rfl ?_
        refine g_iload (q := 37) dX11_likeliest_35 rfl rfl ?_
        refine g_callV (q := 40) lX11_403 mX11_strokesThatCount nX11_strokesThatCount rfl (x_strokesThatCount (d + 4) sh _ S Y3.x (by omega) (by omega)) (by first | assumption | exact S.at _ rfl) rfl rfl shLe.rf (rmOk.mk (by omega) (by first | exact shLe.rf | assumption)) (Nat.le_of_ble_eq_true rfl) dX11_likeliest_37 rfl rfl (kI fun r_ c_ hp => ?_)
        obtain ⟨hr, hq⟩ := hp
        replace hr := hr.symm
        replace hq := hq.symm
        subst hr hq
        refine g_iload_n (q := 41) dX11_likeliest_40 rfl rfl ?_
        refine g_icmp_ge (q := 44) (tg := 53) dX11_likeliest_41 (by decide) rfl (fun c_41 => ?_) (fun c_41 => ?_)
        · refine skip' ?_ _
          apply Classical.byContradiction
          intro z
          have := hcmp.mpr z
          unfold w32 at c_41
          omega
        · have hlt := hcmp.mp (by unfold w32 at c_41; omega)
          rw [if_neg hlt] at stp
          refine g_aload_n (q := 45) dX11_likeliest_44 rfl rfl ?_
          refine g_iload (q := 47) dX11_likeliest_45 rfl rfl ?_
          refine g_callV (q := 50) lX11_403 mX11_strokesThatCount nX11_strokesThatCount rfl (x_strokesThatCount (d + 4) sh _ S Y3.x (by omega) (by omega)) (by first | assumption | exact S.at _ rfl) rfl rfl shLe.rf (rmOk.mk (by omega) (by first | exact shLe.rf | assumption)) (Nat.le_of_ble_eq_true rfl) dX11_likeliest_47 rfl rfl (kI fun r_ c_ hp => ?_)
          obtain ⟨hr, hq⟩ := hp
          replace hr := hr.symm
          replace hq := hq.symm
          subst hr hq
          refine s_istore_n_5_2 (q := 51) dX11_likeliest_50 rfl rfl rfl ?_
          refine g_iload_n (q := 52) dX11_likeliest_51 rfl rfl ?_
          refine s_istore_n_5_1 (q := 53) dX11_likeliest_52 rfl rfl rfl ?_
          refine s_iinc_5_3 (q := 56) dX11_likeliest_53 rfl rfl rfl ?_
          refine g_goto (q := 12) dX11_likeliest_56 (by decide) ?_
          refine kk (fun k => if k = t.toNat then lkL (β.n 4) v else LL k) _ _ ?_ (inv _ rfl)
          rw [stp, hlk]
          simp [lsSub, upL]
          omega
  · rintro LL c ⟨-, Y2, f, A2, -, hv⟩
    refine g_iload_n (q := 13) dX11_likeliest_12 rfl rfl ?_
    refine g_bipush (q := 15) dX11_likeliest_13 (by decide +kernel) rfl ?_
    refine g_icmp_gt (q := 18) (tg := 59) dX11_likeliest_15 (by decide) rfl (fun c_15 => ?_) (fun c_15 => ?_)
    · refine g_iload_n (q := 60) dX11_likeliest_59 rfl rfl ?_
      refine g_ireturn dX11_likeliest_60 rfl ?_
      rw [← hP]
      refine ⟨_, rfl, ⟨LL, fun k hk => ?_, rfl⟩, Y2.x, f⟩
      obtain ⟨v, h1, h2, h3⟩ := hv k (by omega)
      exact ⟨v, h1, h3⟩
    · exact absurd c_15 (by unfold w32; omega)
end
