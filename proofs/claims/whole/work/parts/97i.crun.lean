/-! MinuteBook: the deeds of a tray -/
section
variable (d : Nat) (sh : mbSh) (ct : mbCt) {b : Int} {β : Bk} {s z : Sit} {q : Int} {N : Nat} {V : Int} {a : Int} {sz bt : Int → Int} {vl : Int → Int → Int}
theorem doV_cn {v : Int} (h : cnM β z.2.2) (hw : whyV β z v = 0) : cnM β (doV β z v).2.2 := by
  rcases whyV_0 hw with h1 | h1 | h1
  · unfold doV
    rw [if_pos h1]
    exact h
  · unfold doV
    rw [if_neg (by omega), if_pos (by omega)]
    exact h
  · unfold doV
    rw [if_neg (by omega), if_neg (by omega)]
    intro k hk
    show (if k = (v - 100) / 10 then v % 10 else z.2.2 k) = 0
    rw [if_neg (by omega)]
    exact h k hk
theorem TY.tr {c c2 : mbCt} {s' z2 z3 : Sit} (h : TY sh ct b β s q N V a z2 c) (hs : (a = 14 ∧ s' = s) ∨ (a = 12 ∧ s' = z2)) (h2 : TY sh c b β s' q N V a z3 c2) : TY sh ct b β s q N V a z3 c2 := by
  obtain ⟨⟨s3, h3, X3⟩, g2, g3, g4⟩ := h2
  refine ⟨⟨s3, ?_, X3⟩, g2, h.2.2.1.tr g3, g4.trans h.2.2.2⟩
  rcases h3 with h3 | h3
  · rcases hs with h4 | h4
    · exact Or.inl ⟨h3.1, h3.2.trans h4.2⟩
    · omega
  · exact Or.inr h3
theorem TC.dd {c : mbCt} (T : TC ct sz bt vl) (ha : a = 12 ∨ a = 14) (e : dE a ct c) : TC c sz bt vl := by
  intro t t0 t1
  have e0 : c (39 + 2 * t) = ct (39 + 2 * t) := e.1 _ (by simp; omega)
  have e1 : c (39 + 2 * t + 1) = ct (39 + 2 * t + 1) := e.1 _ (by simp; omega)
  rw [e0, e1]
  exact T t t0 t1
theorem x_tryDeeds {t : Int} (S : SH sh) (X : CX sh ct b β s q N V) (T : TC ct sz bt vl) (ht : isTr t) (hsz : sz t ≠ -1) (ha : (a = 12 ∧ z = s) ∨ a = 14) (hz : sitC ct a z) (hzB : sitB z) (hzc : cnM β z.2.2) : Mt YX11_tryDeeds (d + 4) [.inr (.inr 0), .inr (.inr a), .inr (.inr (39 + 2 * t))] sh sh ct (pI fun r c => r = (dRun β (vl t) (sz t).toNat (sz t).toNat z).1 ∧ TY sh ct b β s q N V a (dRun β (vl t) (sz t).toNat (sz t).toNat z).2.1 c ∧ sitB (dRun β (vl t) (sz t).toNat (sz t).toNat z).2.1 ∧ cnM β (dRun β (vl t) (sz t).toNat (sz t).toNat z).2.1.2.2) := by
  have ha' : a = 12 ∨ a = 14 := by omega
  have st := (S.tray ht.1 ht.2).1
  have hbk := X.2.2.1.2.2
  obtain ⟨T1, T2⟩ := T t ht.1 ht.2
  have h40 : 0 ≤ sz t ∧ sz t ≤ 40 := by omega
  generalize hP : (pI fun r c => r = (dRun β (vl t) (sz t).toNat (sz t).toNat z).1 ∧ TY sh ct b β s q N V a (dRun β (vl t) (sz t).toNat (sz t).toNat z).2.1 c ∧ sitB (dRun β (vl t) (sz t).toNat (sz t).toNat z).2.1 ∧ cnM β (dRun β (vl t) (sz t).toNat (sz t).toNat z).2.1.2.2) = Po
  refine Mt.of rfl (Nat.le_of_ble_eq_true rfl) ?_
  show G _ 0 [some (.inr (.inr 0)), some (.inr (.inr a)), some (.inr (.inr (39 + 2 * t))), none] [] sh ct
  refine g_iconst (q := 1) dX11_tryDeeds_0 rfl ?_
  refine s_istore_n_4_3 (q := 2) dX11_tryDeeds_1 rfl rfl rfl ?_
  refine g_forA (α := Sit) (fun i _ => [some (.inr (.inr 0)), some (.inr (.inr a)), some (.inr (.inr (39 + 2 * t))), some (.inl i)]) (fun i zi c => 0 ≤ i ∧ TY sh ct b β s q N V a zi c ∧ sitB zi ∧ cnM β zi.2.2 ∧ dRun β (vl t) (sz t).toNat (sz t).toNat z = dRun β (vl t) (sz t).toNat ((sz t).toNat - i.toNat) zi) (sz t) ?_ ?_ (i := 0) (a := z) (by omega) ⟨by omega, TY.rf sh X ha hz, hzB, hzc, by simp⟩ (by simp [lsSub])
  · rintro i zi c hi ⟨i0, hT, hB, hc, hrun⟩ kk
    obtain ⟨s', hs', X'⟩ := hT.1
    have hso : (a = 12 ∧ zi = s') ∨ a = 14 := by
      rcases hs' with h | h
      · exact Or.inr h.1
      · exact Or.inl ⟨h.1, h.2.symm⟩
    have Tc := TC.dd ct T ha' hT.2.2
    obtain ⟨T3, T4⟩ := Tc t ht.1 ht.2
    have ei : ((i.toNat : Nat) : Int) = i := by omega
    have hvl : c (39 + 2 * t + 1) i = vl t i ∧ i64 (vl t i) := by
      rcases T4 with h | h
      · exact absurd h hsz
      · exact h.2.2 i i0 hi
    have hstep := dRun_s (β := β) (tl := vl t) (n := (sz t).toNat) (j := i.toNat) (by omega) zi
    rw [ei] at hstep
    refine g_iload_n (q := 3) dX11_tryDeeds_2 rfl rfl ?_
    refine g_aload_n (q := 4) dX11_tryDeeds_3 rfl rfl ?_
    refine g_getI (q := 7) (kI := 1) fX11_225 (by first | assumption | exact S.at _ rfl) dX11_tryDeeds_4 rfl rfl ?_
    rw [T3]
    refine g_icmp_ge (q := 10) (tg := 31) dX11_tryDeeds_7 (by decide) rfl (fun c_7 => ?_) (fun c_7 => ?_)
    · exact absurd c_7 (by unfold w32; omega)
    · refine g_aload_n (q := 11) dX11_tryDeeds_10 rfl rfl ?_
      refine g_aload_n (q := 12) dX11_tryDeeds_11 rfl rfl ?_
      refine g_aload_n (q := 13) dX11_tryDeeds_12 rfl rfl ?_
      refine g_iload_n (q := 14) dX11_tryDeeds_13 rfl rfl ?_
      refine g_callV (q := 17) lX11_226 mX9_at nX9_at rfl (c_at (d + 3) sh _ (trAt_t S X'.L ht.1 ht.2) (by omega) (by omega) i0 (by omega)) st rfl rfl shLe.rf (rmOk.mk (by omega) (by first | exact shLe.rf | assumption)) (Nat.le_of_ble_eq_true rfl) dX11_tryDeeds_14 rfl rfl (kL fun r_ c_ hp => ?_)
      obtain ⟨hr, hq⟩ := hp
      replace hr := hr.symm
      replace hq := hq.symm
      subst hr hq
      rw [hvl.1]
      refine g_callV (q := 20) lX11_229 mX11_tryDeed nX11_tryDeed rfl (x_tryDeed d sh _ S X' (z := zi) hso hT.2.1 hB hc hvl.2) (by first | assumption | exact S.at _ rfl) rfl rfl shLe.rf (rmOk.mk (by omega) (by first | exact shLe.rf | assumption)) (Nat.le_of_ble_eq_true rfl) dX11_tryDeeds_17 rfl rfl (kI fun r c2 hp => ?_)
      obtain ⟨hr, hT2⟩ := hp
      have hT3 := TY.tr sh ct hT hs' hT2
      have hwi := whyV_in β zi (vl t i)
      refine g_if_eq (q := 23) (tg := 25) dX11_tryDeeds_20 (by decide) rfl (fun c_20 => ?_) (fun c_20 => ?_)
      · have hw : whyV β zi (vl t i) = 0 := by unfold w32 at c_20; omega
        rw [hw, if_pos rfl] at hT3
        rw [if_pos hw] at hstep
        refine s_iinc_4_3 (q := 28) dX11_tryDeeds_25 rfl rfl rfl ?_
        refine g_goto (q := 2) dX11_tryDeeds_28 (by decide) ?_
        refine kk (doV β zi (vl t i)) _ _ (by simp [lsSub]) ⟨by omega, hT3, doV_B hbk hB hw, doV_cn hc hw, ?_⟩
        rw [hrun, hstep, show (i + 1).toNat = i.toNat + 1 by omega]
      · have hw : ¬ whyV β zi (vl t i) = 0 := fun h => c_20 (by rw [hr, h]; rfl)
        rw [if_neg hw] at hT3 hstep
        refine g_iload_n (q := 24) dX11_tryDeeds_23 rfl rfl ?_
        refine g_ireturn dX11_tryDeeds_24 rfl ?_
        rw [← hP, hrun, hstep]
        exact ⟨_, rfl, rfl, hT3, hB, hc⟩
  · rintro zi c ⟨-, hT, hB, hc, hrun⟩
    have Tc := TC.dd ct T ha' hT.2.2
    obtain ⟨T3, T4⟩ := Tc t ht.1 ht.2
    refine g_iload_n (q := 3) dX11_tryDeeds_2 rfl rfl ?_
    refine g_aload_n (q := 4) dX11_tryDeeds_3 rfl rfl ?_
    refine g_getI (q := 7) (kI := 1) fX11_225 (by first | assumption | exact S.at _ rfl) dX11_tryDeeds_4 rfl rfl ?_
    rw [T3]
    refine g_icmp_ge (q := 10) (tg := 31) dX11_tryDeeds_7 (by decide) rfl (fun c_7 => ?_) (fun c_7 => ?_)
    · refine g_aload_n (q := 32) dX11_tryDeeds_31 rfl rfl ?_
      refine g_getI (q := 35) (kI := 1) fX11_225 (by first | assumption | exact S.at _ rfl) dX11_tryDeeds_32 rfl rfl ?_
      rw [T3]
      refine g_ireturn dX11_tryDeeds_35 rfl ?_
      rw [← hP, hrun, Nat.sub_self]
      exact ⟨_, rfl, by show sz t = ((sz t).toNat : Int); omega, hT, hB, hc⟩
    · exact absurd c_7 (Int.lt_irrefl _)
end
