/-! the reference: deeds that are noted and undone -/
def DF : List Int := [92, 93, 97, 98, 99]
def dF (ct c : mbCt) : Prop := eqBut DF ct c ∧ (∀ k, k ≠ 0 → k ≠ 19 → k ≠ 20 → c 92 k = ct 92 k) ∧ frJ 28 139 ct c
section
variable {ct c c2 : mbCt} {β : Bk} {s : Sit} {n : Int} {pl : Int → Sit}
theorem dF.rf : dF ct ct := ⟨eqBut.rf, fun _ _ _ _ => rfl, frJ.of rfl⟩
theorem dF.tr (h : dF ct c) (h2 : dF c c2) : dF ct c2 := ⟨h.1.tr h2.1, fun k a b e => (h2.2.1 k a b e).trans (h.2.1 k a b e), h.2.2.tr h2.2.2⟩
theorem dF.th {k v : Int} (hk : k = 0 ∨ k = 19 ∨ k = 20) : dF ct (wr ct 92 k v) := ⟨eqBut.rf.wr (by decide), fun j a b e => wr_nk (by omega), frJ.of (wr_other _ _ _ _ _ (by decide))⟩
theorem dF.of {A : List Int} (h : eqBut A ct c) (hA : (A.all fun x => decide (x ∈ DF ∧ x ≠ 92)) = true) (hf : frJ 28 139 ct c) : dF ct c := by
  have hA2 : ∀ x ∈ A, x ∈ DF ∧ x ≠ 92 := fun x hx => by simpa using (List.all_eq_true.mp hA x hx)
  refine ⟨h.mono (fun x hx => (hA2 x hx).1), fun k _ _ _ => ?_, hf⟩
  rw [h 92 (fun z => (hA2 92 z).2 rfl)]
theorem dF.L (h : dF ct c) (L : LK ct) : LK c := by
  refine L.but h.1 ?_
  intro a ha k v hv
  by_cases h92 : a = 92
  · subst h92
    by_cases hk : k = 0 ∨ k = 19 ∨ k = 20
    · rcases hk with rfl | rfl | rfl <;> cases hv
    · rw [h.2.1 k (by omega) (by omega) (by omega)]
      exact L _ _ _ hv
  · have : ((lkT[a.toNat]?).getD []) = [] := by
      unfold DF at ha
      simp at ha
      rcases ha with rfl | rfl | rfl | rfl | rfl
      · exact absurd rfl h92
      all_goals rfl
    rw [lkF_none this] at hv
    cases hv
theorem plM.fr (h : plM (ct 93) n pl) (e : frJ 28 38 ct c) : plM (c 93) n pl := by
  obtain ⟨h1, h2, h3⟩ := h
  refine ⟨by rw [e 38 (by omega), h1], h2, fun k k0 k1 => ?_⟩
  have := h3 k k0 k1
  exact ⟨this.1.cp (fun j a b => e _ (by omega)), this.2⟩
/-- book, sitting and pile -/
def MP (ct : mbCt) (β : Bk) (s : Sit) (n : Int) (pl : Int → Sit) : Prop := MA ct β s ∧ plM (ct 93) n pl
theorem MP.th (h : MP ct β s n pl) {k v : Int} (hk : k = 0 ∨ k = 19 ∨ k = 20) : MP (wr ct 92 k v) β s n pl := by
  have e := dF.th (ct := ct) (v := v) hk
  refine ⟨h.1.same (e.L h.1.1) (frJ.of (wr_other _ _ _ _ _ (by decide))), ?_⟩
  rw [wr_other _ _ _ _ _ (by decide)]
  exact h.2
theorem MP.eq (h : MP ct β s n pl) (L : LK c) (e : c 93 = ct 93) : MP c β s n pl := ⟨h.1.same L (frJ.of e), by rw [e]; exact h.2⟩
end
theorem dX12_say_0 : decode cX12_say 0 = .ok (.aload_n 0, 1) := by decide +kernel
theorem dX12_say_1 : decode cX12_say 1 = .ok (.iconst 0, 1) := by decide +kernel
theorem dX12_say_2 : decode cX12_say 2 = .ok (.putfield 1, 3) := by decide +kernel
theorem dX12_say_5 : decode cX12_say 5 = .ok (.aload_n 0, 1) := by decide +kernel
theorem dX12_say_6 : decode cX12_say 6 = .ok (.iload_n 1, 1) := by decide +kernel
theorem dX12_say_7 : decode cX12_say 7 = .ok (.i2l, 1) := by decide +kernel
theorem dX12_say_8 : decode cX12_say 8 = .ok (.iload_n 2, 1) := by decide +kernel
theorem dX12_say_9 : decode cX12_say 9 = .ok (.i2l, 1) := by decide +kernel
theorem dX12_say_10 : decode cX12_say 10 = .ok (.invokevirtual 274, 3) := by decide +kernel
theorem dX12_say_13 : decode cX12_say 13 = .ok (.istore_n 3, 1) := by decide +kernel
theorem dX12_say_14 : decode cX12_say 14 = .ok (.iload_n 3, 1) := by decide +kernel
theorem dX12_say_15 : decode cX12_say 15 = .ok (.ifCond .eq 8, 3) := by decide +kernel
theorem dX12_say_18 : decode cX12_say 18 = .ok (.bipush (-10), 2) := by decide +kernel
theorem dX12_say_20 : decode cX12_say 20 = .ok (.iload_n 3, 1) := by decide +kernel
theorem dX12_say_21 : decode cX12_say 21 = .ok (.isub, 1) := by decide +kernel
theorem dX12_say_22 : decode cX12_say 22 = .ok (.ireturn, 1) := by decide +kernel
theorem dX12_say_23 : decode cX12_say 23 = .ok (.aload_n 0, 1) := by decide +kernel
theorem dX12_say_24 : decode cX12_say 24 = .ok (.invokevirtual 278, 3) := by decide +kernel
theorem dX12_say_27 : decode cX12_say 27 = .ok (.aload_n 0, 1) := by decide +kernel
theorem dX12_say_28 : decode cX12_say 28 = .ok (.iload_n 1, 1) := by decide +kernel
theorem dX12_say_29 : decode cX12_say 29 = .ok (.iload_n 2, 1) := by decide +kernel
theorem dX12_say_30 : decode cX12_say 30 = .ok (.invokevirtual 281, 3) := by decide +kernel
theorem dX12_say_33 : decode cX12_say 33 = .ok (.aload_n 0, 1) := by decide +kernel
theorem dX12_say_34 : decode cX12_say 34 = .ok (.invokevirtual 285, 3) := by decide +kernel
theorem dX12_say_37 : decode cX12_say 37 = .ok (.aload_n 0, 1) := by decide +kernel
theorem dX12_say_38 : decode cX12_say 38 = .ok (.invokevirtual 288, 3) := by decide +kernel
theorem dX12_say_41 : decode cX12_say 41 = .ok (.ireturn, 1) := by decide +kernel
theorem dX12_mark_0 : decode cX12_mark 0 = .ok (.aload_n 0, 1) := by decide +kernel
theorem dX12_mark_1 : decode cX12_mark 1 = .ok (.iconst 0, 1) := by decide +kernel
theorem dX12_mark_2 : decode cX12_mark 2 = .ok (.putfield 1, 3) := by decide +kernel
theorem dX12_mark_5 : decode cX12_mark 5 = .ok (.aload_n 0, 1) := by decide +kernel
theorem dX12_mark_6 : decode cX12_mark 6 = .ok (.iload_n 1, 1) := by decide +kernel
theorem dX12_mark_7 : decode cX12_mark 7 = .ok (.i2l, 1) := by decide +kernel
theorem dX12_mark_8 : decode cX12_mark 8 = .ok (.invokevirtual 220, 3) := by decide +kernel
theorem dX12_mark_11 : decode cX12_mark 11 = .ok (.ifCond .eq 15, 3) := by decide +kernel
theorem dX12_mark_14 : decode cX12_mark 14 = .ok (.iload_n 2, 1) := by decide +kernel
theorem dX12_mark_15 : decode cX12_mark 15 = .ok (.i2l, 1) := by decide +kernel
theorem dX12_mark_16 : decode cX12_mark 16 = .ok (.lconst 0, 1) := by decide +kernel
theorem dX12_mark_17 : decode cX12_mark 17 = .ok (.ldc2_w 193, 3) := by decide +kernel
theorem dX12_mark_20 : decode cX12_mark 20 = .ok (.invokestatic 150, 3) := by decide +kernel
theorem dX12_mark_23 : decode cX12_mark 23 = .ok (.ifCond .ne 6, 3) := by decide +kernel
theorem dX12_mark_26 : decode cX12_mark 26 = .ok (.bipush (-11), 2) := by decide +kernel
theorem dX12_mark_28 : decode cX12_mark 28 = .ok (.ireturn, 1) := by decide +kernel
theorem dX12_mark_29 : decode cX12_mark 29 = .ok (.aload_n 0, 1) := by decide +kernel
theorem dX12_mark_30 : decode cX12_mark 30 = .ok (.invokevirtual 278, 3) := by decide +kernel
theorem dX12_mark_33 : decode cX12_mark 33 = .ok (.aload_n 0, 1) := by decide +kernel
theorem dX12_mark_34 : decode cX12_mark 34 = .ok (.getfield 13, 3) := by decide +kernel
theorem dX12_mark_37 : decode cX12_mark 37 = .ok (.bipush 32, 2) := by decide +kernel
theorem dX12_mark_39 : decode cX12_mark 39 = .ok (.iload_n 1, 1) := by decide +kernel
theorem dX12_mark_40 : decode cX12_mark 40 = .ok (.iadd, 1) := by decide +kernel
theorem dX12_mark_41 : decode cX12_mark 41 = .ok (.iload_n 2, 1) := by decide +kernel
theorem dX12_mark_42 : decode cX12_mark 42 = .ok (.iastore, 1) := by decide +kernel
theorem dX12_mark_43 : decode cX12_mark 43 = .ok (.aload_n 0, 1) := by decide +kernel
theorem dX12_mark_44 : decode cX12_mark 44 = .ok (.invokevirtual 285, 3) := by decide +kernel
theorem dX12_mark_47 : decode cX12_mark 47 = .ok (.aload_n 0, 1) := by decide +kernel
theorem dX12_mark_48 : decode cX12_mark 48 = .ok (.getfield 36, 3) := by decide +kernel
theorem dX12_mark_51 : decode cX12_mark 51 = .ok (.iconst 4, 1) := by decide +kernel
theorem dX12_mark_52 : decode cX12_mark 52 = .ok (.iload_n 1, 1) := by decide +kernel
theorem dX12_mark_53 : decode cX12_mark 53 = .ok (.iadd, 1) := by decide +kernel
theorem dX12_mark_54 : decode cX12_mark 54 = .ok (.iaload, 1) := by decide +kernel
theorem dX12_mark_55 : decode cX12_mark 55 = .ok (.ireturn, 1) := by decide +kernel
theorem dX12_adjourn_0 : decode cX12_adjourn 0 = .ok (.aload_n 0, 1) := by decide +kernel
theorem dX12_adjourn_1 : decode cX12_adjourn 1 = .ok (.iconst 0, 1) := by decide +kernel
theorem dX12_adjourn_2 : decode cX12_adjourn 2 = .ok (.putfield 1, 3) := by decide +kernel
theorem dX12_adjourn_5 : decode cX12_adjourn 5 = .ok (.aload_n 0, 1) := by decide +kernel
theorem dX12_adjourn_6 : decode cX12_adjourn 6 = .ok (.invokevirtual 278, 3) := by decide +kernel
theorem dX12_adjourn_9 : decode cX12_adjourn 9 = .ok (.aload_n 0, 1) := by decide +kernel
theorem dX12_adjourn_10 : decode cX12_adjourn 10 = .ok (.invokevirtual 213, 3) := by decide +kernel
theorem dX12_adjourn_13 : decode cX12_adjourn 13 = .ok (.aload_n 0, 1) := by decide +kernel
theorem dX12_adjourn_14 : decode cX12_adjourn 14 = .ok (.invokevirtual 285, 3) := by decide +kernel
theorem dX12_adjourn_17 : decode cX12_adjourn 17 = .ok (.aload_n 0, 1) := by decide +kernel
theorem dX12_adjourn_18 : decode cX12_adjourn 18 = .ok (.getfield 36, 3) := by decide +kernel
theorem dX12_adjourn_21 : decode cX12_adjourn 21 = .ok (.iconst 3, 1) := by decide +kernel
theorem dX12_adjourn_22 : decode cX12_adjourn 22 = .ok (.iaload, 1) := by decide +kernel
theorem dX12_adjourn_23 : decode cX12_adjourn 23 = .ok (.ireturn, 1) := by decide +kernel
theorem dX12_undo_0 : decode cX12_undo 0 = .ok (.aload_n 0, 1) := by decide +kernel
theorem dX12_undo_1 : decode cX12_undo 1 = .ok (.iconst 0, 1) := by decide +kernel
theorem dX12_undo_2 : decode cX12_undo 2 = .ok (.putfield 1, 3) := by decide +kernel
theorem dX12_undo_5 : decode cX12_undo 5 = .ok (.iload_n 1, 1) := by decide +kernel
theorem dX12_undo_6 : decode cX12_undo 6 = .ok (.i2l, 1) := by decide +kernel
theorem dX12_undo_7 : decode cX12_undo 7 = .ok (.lconst 1, 1) := by decide +kernel
theorem dX12_undo_8 : decode cX12_undo 8 = .ok (.ldc2_w 218, 3) := by decide +kernel
theorem dX12_undo_11 : decode cX12_undo 11 = .ok (.invokestatic 150, 3) := by decide +kernel
theorem dX12_undo_14 : decode cX12_undo 14 = .ok (.ifCond .eq 14, 3) := by decide +kernel
theorem dX12_undo_17 : decode cX12_undo 17 = .ok (.iload_n 1, 1) := by decide +kernel
theorem dX12_undo_18 : decode cX12_undo 18 = .ok (.aload_n 0, 1) := by decide +kernel
theorem dX12_undo_19 : decode cX12_undo 19 = .ok (.getfield 13, 3) := by decide +kernel
theorem dX12_undo_22 : decode cX12_undo 22 = .ok (.bipush 38, 2) := by decide +kernel
theorem dX12_undo_24 : decode cX12_undo 24 = .ok (.iaload, 1) := by decide +kernel
theorem dX12_undo_25 : decode cX12_undo 25 = .ok (.if_icmp .le 6, 3) := by decide +kernel
theorem dX12_undo_28 : decode cX12_undo 28 = .ok (.bipush (-3), 2) := by decide +kernel
theorem dX12_undo_30 : decode cX12_undo 30 = .ok (.ireturn, 1) := by decide +kernel
theorem dX12_undo_31 : decode cX12_undo 31 = .ok (.aload_n 0, 1) := by decide +kernel
theorem dX12_undo_32 : decode cX12_undo 32 = .ok (.getfield 13, 3) := by decide +kernel
theorem dX12_undo_35 : decode cX12_undo 35 = .ok (.bipush 38, 2) := by decide +kernel
theorem dX12_undo_37 : decode cX12_undo 37 = .ok (.dup2, 1) := by decide +kernel
theorem dX12_undo_38 : decode cX12_undo 38 = .ok (.iaload, 1) := by decide +kernel
theorem dX12_undo_39 : decode cX12_undo 39 = .ok (.iload_n 1, 1) := by decide +kernel
theorem dX12_undo_40 : decode cX12_undo 40 = .ok (.isub, 1) := by decide +kernel
theorem dX12_undo_41 : decode cX12_undo 41 = .ok (.iastore, 1) := by decide +kernel
theorem dX12_undo_42 : decode cX12_undo 42 = .ok (.iconst 0, 1) := by decide +kernel
theorem dX12_undo_43 : decode cX12_undo 43 = .ok (.istore_n 2, 1) := by decide +kernel
theorem dX12_undo_44 : decode cX12_undo 44 = .ok (.iload_n 2, 1) := by decide +kernel
theorem dX12_undo_45 : decode cX12_undo 45 = .ok (.bipush 10, 2) := by decide +kernel
theorem dX12_undo_47 : decode cX12_undo 47 = .ok (.if_icmp .ge 38, 3) := by decide +kernel
theorem dX12_undo_50 : decode cX12_undo 50 = .ok (.aload_n 0, 1) := by decide +kernel
theorem dX12_undo_51 : decode cX12_undo 51 = .ok (.getfield 13, 3) := by decide +kernel
theorem dX12_undo_54 : decode cX12_undo 54 = .ok (.bipush 28, 2) := by decide +kernel
theorem dX12_undo_56 : decode cX12_undo 56 = .ok (.iload_n 2, 1) := by decide +kernel
theorem dX12_undo_57 : decode cX12_undo 57 = .ok (.iadd, 1) := by decide +kernel
theorem dX12_undo_58 : decode cX12_undo 58 = .ok (.aload_n 0, 1) := by decide +kernel
theorem dX12_undo_59 : decode cX12_undo 59 = .ok (.getfield 13, 3) := by decide +kernel
theorem dX12_undo_62 : decode cX12_undo 62 = .ok (.bipush 39, 2) := by decide +kernel
theorem dX12_undo_64 : decode cX12_undo 64 = .ok (.bipush 10, 2) := by decide +kernel
theorem dX12_undo_66 : decode cX12_undo 66 = .ok (.aload_n 0, 1) := by decide +kernel
theorem dX12_undo_67 : decode cX12_undo 67 = .ok (.getfield 13, 3) := by decide +kernel
theorem dX12_undo_70 : decode cX12_undo 70 = .ok (.bipush 38, 2) := by decide +kernel
theorem dX12_undo_72 : decode cX12_undo 72 = .ok (.iaload, 1) := by decide +kernel
theorem dX12_undo_73 : decode cX12_undo 73 = .ok (.imul, 1) := by decide +kernel
theorem dX12_undo_74 : decode cX12_undo 74 = .ok (.iadd, 1) := by decide +kernel
theorem dX12_undo_75 : decode cX12_undo 75 = .ok (.iload_n 2, 1) := by decide +kernel
theorem dX12_undo_76 : decode cX12_undo 76 = .ok (.iadd, 1) := by decide +kernel
theorem dX12_undo_77 : decode cX12_undo 77 = .ok (.iaload, 1) := by decide +kernel
theorem dX12_undo_78 : decode cX12_undo 78 = .ok (.iastore, 1) := by decide +kernel
theorem dX12_undo_79 : decode cX12_undo 79 = .ok (.iinc 2 1, 3) := by decide +kernel
theorem dX12_undo_82 : decode cX12_undo 82 = .ok (.goto (-38), 3) := by decide +kernel
theorem dX12_undo_85 : decode cX12_undo 85 = .ok (.aload_n 0, 1) := by decide +kernel
theorem dX12_undo_86 : decode cX12_undo 86 = .ok (.getfield 13, 3) := by decide +kernel
theorem dX12_undo_89 : decode cX12_undo 89 = .ok (.bipush 38, 2) := by decide +kernel
theorem dX12_undo_91 : decode cX12_undo 91 = .ok (.iaload, 1) := by decide +kernel
theorem dX12_undo_92 : decode cX12_undo 92 = .ok (.ireturn, 1) := by decide +kernel
section
variable (d : Nat) (sh : mbSh) (ct : mbCt) {β : Bk} {s : Sit} {n : Int} {pl : Int → Sit}
theorem tw_notes {w : Sit} (S : SH sh) (M : MP ct β s n pl) (h : sitM (ct 99) 0 w) (hw : sitB w) : Mt YX12_notes d [.inr (.inr 92)] sh sh ct (pN fun c => MP c β s (pushN n) (pushP n pl w) ∧ eqBut [93] ct c ∧ frJ 38 139 ct c) := by
  have L := M.1.1
  have s93 : shA sh 93 = some (20, 3120) := S.at _ rfl
  have s99 : shA sh 99 = some (20, 10) := S.at _ rfl
  obtain ⟨p1, p2, p3⟩ := M.2
  generalize hP : (pN fun c => MP c β s (pushN n) (pushP n pl w) ∧ eqBut [93] ct c ∧ frJ 38 139 ct c) = Po
  -- the last row is laid
  have tail : ∀ (N : Int) (q : Int → Sit) (c : mbCt) (o1 : Option gV), 0 ≤ N → N ≤ 9 → eqBut [93] ct c → frJ 38 139 ct c → c 93 38 = N → (∀ k, 0 ≤ k → k < N → sitM (c 93) (39 + 10 * k) (q k) ∧ sitB (q k)) → (∀ c2, MP c2 β s (N + 1) (fun k => if k = N then w else q k) → eqBut [93] ct c2 → frJ 38 139 ct c2 → Po none c2) → G (mkK YX12_notes d sh sh Po) 55 [some (.inr (.inr 92)), o1] [] sh c := by
    intro N q c o1 n0 n1 e fr hN hq fin
    refine g_iconst (q := 56) dX12_notes_55 rfl ?_
    refine s_istore_n_2_1 (q := 57) dX12_notes_56 rfl rfl rfl ?_
    refine g_for (fun k => [some (.inr (.inr 92)), some (.inl k)]) (fun k c2 => 0 ≤ k ∧ eqBut [93] c c2 ∧ (∀ j, (j < 39 + 10 * N ∨ 39 + 10 * N + 10 ≤ j) → c2 93 j = c 93 j) ∧ ∀ j, 0 ≤ j → j < k → c2 93 (39 + 10 * N + j) = ct 99 j) 10 ?_ ?_ (i := 0) (by omega) ⟨by omega, eqBut.rf, fun _ _ => rfl, fun j _ _ => by omega⟩ (by simp [lsSub])
    · rintro k c2 hk ⟨k0, e2, fr2, hj⟩ kk
      have L2 : LK c2 := (L.eb e rfl).eb e2 rfl
      have h38 : c2 93 38 = N := by rw [fr2 38 (by omega), hN]
      refine g_iload_n (q := 58) dX12_notes_57 rfl rfl ?_
      refine g_bipush (q := 60) dX12_notes_58 (by decide +kernel) rfl ?_
      refine g_icmp_ge (q := 63) (tg := 95) dX12_notes_60 (by decide) rfl (fun c_60 => ?_) (fun c_60 => ?_)
      · exact absurd c_60 (by unfold w32; omega)
      · refine g_aload_n (q := 64) dX12_notes_63 rfl rfl ?_
        refine g_getA (q := 67) (kI := 1) fX12_13 (by first | assumption | exact S.at _ rfl) dX12_notes_64 rfl rfl (by first | assumption | exact L.at _ _ rfl | exact LK.at (by assumption) _ _ rfl | ((repeat first | rewrite [wr_na (by decide)] | rewrite [wr_nk (by decide)] | rewrite [wa_na (by decide)]); first | assumption | exact LK.at (by assumption) _ _ rfl) | exact rfl) ?_
        refine g_bipush (q := 69) dX12_notes_67 (by decide +kernel) rfl ?_
        refine g_bipush (q := 71) dX12_notes_69 (by decide +kernel) rfl ?_
        refine g_aload_n (q := 72) dX12_notes_71 rfl rfl ?_
        refine g_getA (q := 75) (kI := 1) fX12_13 (by first | assumption | exact S.at _ rfl) dX12_notes_72 rfl rfl (by first | assumption | exact L.at _ _ rfl | exact LK.at (by assumption) _ _ rfl | ((repeat first | rewrite [wr_na (by decide)] | rewrite [wr_nk (by decide)] | rewrite [wa_na (by decide)]); first | assumption | exact LK.at (by assumption) _ _ rfl) | exact rfl) ?_
        refine g_bipush (q := 77) dX12_notes_75 (by decide +kernel) rfl ?_
        refine g_iaload (q := 78) (by first | assumption | exact S.at _ rfl) (by omega) (by omega) (by omega) dX12_notes_77 rfl ?_
        rw [h38]
        refine g_imul (q := 79) dX12_notes_78 rfl ?_
        refine g_iadd (q := 80) dX12_notes_79 rfl ?_
        refine g_iload_n (q := 81) dX12_notes_80 rfl rfl ?_
        refine g_iadd (q := 82) dX12_notes_81 rfl ?_
        refine g_aload_n (q := 83) dX12_notes_82 rfl rfl ?_
        refine g_getA (q := 86) (kI := 18) fX12_36 (by first | assumption | exact S.at _ rfl) dX12_notes_83 rfl rfl (by first | assumption | exact L.at _ _ rfl | exact LK.at (by assumption) _ _ rfl | ((repeat first | rewrite [wr_na (by decide)] | rewrite [wr_nk (by decide)] | rewrite [wa_na (by decide)]); first | assumption | exact LK.at (by assumption) _ _ rfl) | exact rfl) ?_
        refine g_iload_n (q := 87) dX12_notes_86 rfl rfl ?_
        refine g_iaload (q := 88) (by first | assumption | exact S.at _ rfl) (by omega) (by omega) (by omega) dX12_notes_87 rfl ?_
        refine g_iastore (q := 89) (by first | assumption | exact S.at _ rfl) (by omega) (by omega) (by omega) dX12_notes_88 rfl ?_
        refine s_iinc_2_1 (q := 92) dX12_notes_89 rfl rfl rfl ?_
        refine g_goto (q := 57) dX12_notes_92 (by decide) ?_
        refine kk _ _ (by simp [lsSub]) ⟨by omega, e2.wr (by decide), fun j hj2 => ?_, fun j a b => ?_⟩
        · rw [wr_nk (by omega)]
          exact fr2 j hj2
        · by_cases hjk : j = k
          · subst hjk
            rw [wr_eq, e2 99 (by decide), e 99 (by decide)]
          · rw [wr_nk (by omega)]
            exact hj j a (by omega)
    · rintro c2 ⟨-, e2, fr2, hj⟩
      have L2 : LK c2 := (L.eb e rfl).eb e2 rfl
      have h38 : c2 93 38 = N := by rw [fr2 38 (by omega), hN]
      refine g_iload_n (q := 58) dX12_notes_57 rfl rfl ?_
      refine g_bipush (q := 60) dX12_notes_58 (by decide +kernel) rfl ?_
      refine g_icmp_ge (q := 63) (tg := 95) dX12_notes_60 (by decide) rfl (fun c_60 => ?_) (fun c_60 => ?_)
      · refine g_aload_n (q := 96) dX12_notes_95 rfl rfl ?_
        refine g_getA (q := 99) (kI := 1) fX12_13 (by first | assumption | exact S.at _ rfl) dX12_notes_96 rfl rfl (by first | assumption | exact L.at _ _ rfl | exact LK.at (by assumption) _ _ rfl | ((repeat first | rewrite [wr_na (by decide)] | rewrite [wr_nk (by decide)] | rewrite [wa_na (by decide)]); first | assumption | exact LK.at (by assumption) _ _ rfl) | exact rfl) ?_
        refine g_bipush (q := 101) dX12_notes_99 (by decide +kernel) rfl ?_
        refine g_dup2 (q := 102) dX12_notes_101 rfl rfl rfl ?_
        refine g_iaload (q := 103) (by first | assumption | exact S.at _ rfl) (by omega) (by omega) (by omega) dX12_notes_102 rfl ?_
        rw [h38]
        refine g_iconst (q := 104) dX12_notes_103 rfl ?_
        refine g_iadd (q := 105) dX12_notes_104 rfl ?_
        refine g_iastore (q := 106) (by first | assumption | exact S.at _ rfl) (by omega) (by omega) (by omega) dX12_notes_105 rfl ?_
        refine g_return dX12_notes_106 rfl ?_
        have e3 : eqBut [93] ct (wr c2 93 38 (N + 1)) := (e.tr e2).wr (by decide)
        have fr3 : frJ 38 139 ct (wr c2 93 38 (N + 1)) := by
          intro j hj2
          rw [wr_nk (by omega), fr2 j (by omega)]
          exact fr j hj2
        refine fin (wr c2 93 38 (N + 1)) ⟨M.1.same (L.eb e3 rfl) (fr3.mono (by decide) (by decide)), wr_eq, by omega, fun k k0 k1 => ?_⟩ e3 fr3
        · show sitM (wr c2 93 38 (N + 1) 93) (39 + 10 * k) (if k = N then w else q k) ∧ sitB (if k = N then w else q k)
          by_cases hkN : k = N
          · rw [if_pos hkN]
            subst hkN
            refine ⟨h.cp (fun j a b => ?_), hw⟩
            rw [wr_nk (by omega), Int.zero_add]
            exact hj j a b
          · rw [if_neg hkN]
            have := hq k k0 (by omega)
            refine ⟨this.1.cp (fun j a b => ?_), this.2⟩
            rw [wr_nk (by omega), fr2 _ (by omega)]
      · exact absurd c_60 (by decide)
  refine Mt.of rfl (Nat.le_of_ble_eq_true rfl) ?_
  show G _ 0 [some (.inr (.inr 92)), none] [] sh ct
  refine g_aload_n (q := 1) dX12_notes_0 rfl rfl ?_
  refine g_getA (q := 4) (kI := 1) fX12_13 (by first | assumption | exact S.at _ rfl) dX12_notes_1 rfl rfl (by first | assumption | exact L.at _ _ rfl | exact LK.at (by assumption) _ _ rfl | ((repeat first | rewrite [wr_na (by decide)] | rewrite [wr_nk (by decide)] | rewrite [wa_na (by decide)]); first | assumption | exact LK.at (by assumption) _ _ rfl) | exact rfl) ?_
  refine g_bipush (q := 6) dX12_notes_4 (by decide +kernel) rfl ?_
  refine g_iaload (q := 7) (by first | assumption | exact S.at _ rfl) (by omega) (by omega) (by omega) dX12_notes_6 rfl ?_
  refine g_bipush (q := 9) dX12_notes_7 (by decide +kernel) rfl ?_
  refine g_icmp_ne (q := 12) (tg := 55) dX12_notes_9 (by decide) rfl (fun c_9 => ?_) (fun c_9 => ?_)
  · rw [p1] at c_9
    have hn : n ≠ 10 := fun z => c_9 (by rw [z])
    refine tail n pl ct _ p2.1 (by omega) eqBut.rf (frJ.of rfl) p1 p3 (fun c2 h1 h2 h3 => ?_)
    rw [← hP]
    refine ⟨rfl, ?_, h2, h3⟩
    unfold pushN pushP
    rw [if_neg hn]
    simp only [hn, if_false]
    exact h1
  · rw [p1] at c_9
    have hn : n = 10 := by unfold w32 at c_9; omega
    refine g_iconst (q := 13) dX12_notes_12 rfl ?_
    refine s_istore_n_2_1 (q := 14) dX12_notes_13 rfl rfl rfl ?_
    refine g_for (fun k => [some (.inr (.inr 92)), some (.inl k)]) (fun k c => 0 ≤ k ∧ eqBut [93] ct c ∧ (∀ j, (j < 39 ∨ 39 + k ≤ j) → c 93 j = ct 93 j) ∧ ∀ j, 0 ≤ j → j < k → c 93 (39 + j) = ct 93 (49 + j)) 90 ?_ ?_ (i := 0) (by omega) ⟨by omega, eqBut.rf, fun _ _ => rfl, fun j _ _ => by omega⟩ (by simp [lsSub])
    · rintro k c hk ⟨k0, e, fr, hj⟩ kk
      have L1 : LK c := L.eb e rfl
      have hv : c 93 (49 + k) = ct 93 (49 + k) := fr _ (by omega)
      refine g_iload_n (q := 15) dX12_notes_14 rfl rfl ?_
      refine g_bipush (q := 17) dX12_notes_15 (by decide +kernel) rfl ?_
      refine g_icmp_ge (q := 20) (tg := 44) dX12_notes_17 (by decide) rfl (fun c_17 => ?_) (fun c_17 => ?_)
      · exact absurd c_17 (by unfold w32; omega)
      · refine g_aload_n (q := 21) dX12_notes_20 rfl rfl ?_
        refine g_getA (q := 24) (kI := 1) fX12_13 (by first | assumption | exact S.at _ rfl) dX12_notes_21 rfl rfl (by first | assumption | exact L.at _ _ rfl | exact LK.at (by assumption) _ _ rfl | ((repeat first | rewrite [wr_na (by decide)] | rewrite [wr_nk (by decide)] | rewrite [wa_na (by decide)]); first | assumption | exact LK.at (by assumption) _ _ rfl) | exact rfl) ?_
        refine g_bipush (q := 26) dX12_notes_24 (by decide +kernel) rfl ?_
        refine g_iload_n (q := 27) dX12_notes_26 rfl rfl ?_
        refine g_iadd (q := 28) dX12_notes_27 rfl ?_
        refine g_aload_n (q := 29) dX12_notes_28 rfl rfl ?_
        refine g_getA (q := 32) (kI := 1) fX12_13 (by first | assumption | exact S.at _ rfl) dX12_notes_29 rfl rfl (by first | assumption | exact L.at _ _ rfl | exact LK.at (by assumption) _ _ rfl | ((repeat first | rewrite [wr_na (by decide)] | rewrite [wr_nk (by decide)] | rewrite [wa_na (by decide)]); first | assumption | exact LK.at (by assumption) _ _ rfl) | exact rfl) ?_
        refine g_bipush (q := 34) dX12_notes_32 (by decide +kernel) rfl ?_
        refine g_iload_n (q := 35) dX12_notes_34 rfl rfl ?_
        refine g_iadd (q := 36) dX12_notes_35 rfl ?_
        refine g_iaload (q := 37) (by first | assumption | exact S.at _ rfl) (by omega) (by omega) (by omega) dX12_notes_36 rfl ?_
        rw [hv]
        refine g_iastore (q := 38) (by first | assumption | exact S.at _ rfl) (by omega) (by omega) (by omega) dX12_notes_37 rfl ?_
        refine s_iinc_2_1 (q := 41) dX12_notes_38 rfl rfl rfl ?_
        refine g_goto (q := 14) dX12_notes_41 (by decide) ?_
        refine kk _ _ (by simp [lsSub]) ⟨by omega, e.wr (by decide), fun j hj2 => ?_, fun j a b => ?_⟩
        · rw [wr_nk (by omega)]
          exact fr j (by omega)
        · by_cases hjk : j = k
          · subst hjk
            rw [wr_eq]
          · rw [wr_nk (by omega)]
            exact hj j a (by omega)
    · rintro c ⟨-, e, fr, hj⟩
      have L1 : LK c := L.eb e rfl
      have h38 : c 93 38 = 10 := by rw [fr 38 (by omega), p1, hn]
      refine g_iload_n (q := 15) dX12_notes_14 rfl rfl ?_
      refine g_bipush (q := 17) dX12_notes_15 (by decide +kernel) rfl ?_
      refine g_icmp_ge (q := 20) (tg := 44) dX12_notes_17 (by decide) rfl (fun c_17 => ?_) (fun c_17 => ?_)
      · refine g_aload_n (q := 45) dX12_notes_44 rfl rfl ?_
        refine g_getA (q := 48) (kI := 1) fX12_13 (by first | assumption | exact S.at _ rfl) dX12_notes_45 rfl rfl (by first | assumption | exact L.at _ _ rfl | exact LK.at (by assumption) _ _ rfl | ((repeat first | rewrite [wr_na (by decide)] | rewrite [wr_nk (by decide)] | rewrite [wa_na (by decide)]); first | assumption | exact LK.at (by assumption) _ _ rfl) | exact rfl) ?_
        refine g_bipush (q := 50) dX12_notes_48 (by decide +kernel) rfl ?_
        refine g_dup2 (q := 51) dX12_notes_50 rfl rfl rfl ?_
        refine g_iaload (q := 52) (by first | assumption | exact S.at _ rfl) (by omega) (by omega) (by omega) dX12_notes_51 rfl ?_
        rw [h38]
        refine g_iconst (q := 53) dX12_notes_52 rfl ?_
        refine g_isub (q := 54) dX12_notes_53 rfl ?_
        refine g_iastore (q := 55) (by first | assumption | exact S.at _ rfl) (by omega) (by omega) (by omega) dX12_notes_54 rfl ?_
        refine tail 9 (fun k => pl (k + 1)) _ _ (by omega) (by omega) (e.wr (by decide)) (fun j hj2 => ?_) ?_ (fun k k0 k1 => ?_) (fun c2 h1 h2 h3 => ?_)
        · rw [wr_nk (by omega)]
          exact fr j (by omega)
        · rw [wr_eq]
          rfl
        · have := p3 (k + 1) (by omega) (by omega)
          refine ⟨this.1.cp (fun j a b => ?_), this.2⟩
          rw [wr_nk (by omega)]
          have hh := hj (10 * k + j) (by omega) (by omega)
          rw [show 39 + 10 * k + j = 39 + (10 * k + j) by omega, hh]
          congr 1
          omega
        · rw [← hP]
          refine ⟨rfl, ?_, h2, h3⟩
          unfold pushN pushP
          rw [if_pos hn]
          simp only [hn, if_true]
          exact h1
      · exact absurd c_17 (by decide)
theorem tw_say {m y : Int} (S : SH sh) (M : MP ct β s n pl) (hm : i32 m) (hy : i32 y) : Mt YX12_say (d + 5) [.inr (.inr 92), .inl m, .inl y] sh sh ct (pI fun r c => ((whyS β s m y ≠ 0 ∧ r = -10 - whyS β s m y ∧ MP c β s n pl) ∨ (whyS β s m y = 0 ∧ r = nxB β s.1 m y / 7 ∧ MP c β (sayS β s m y) (pushN n) (pushP n pl s))) ∧ dF ct c) := by
  have hm2 := hm
  have hy2 := hy
  unfold i32 at hm2 hy2
  have hB := M.1.2.1.2.2.1
  have hb2 := hB.2.2.1
  have hb3 := hB.2.2.2.1
  have M0 := M.th (k := 0) (v := 0) (Or.inl rfl)
  have f0 := dF.th (ct := ct) (k := 0) (v := 0) (Or.inl rfl)
  generalize hP : (pI fun r c => ((whyS β s m y ≠ 0 ∧ r = -10 - whyS β s m y ∧ MP c β s n pl) ∨ (whyS β s m y = 0 ∧ r = nxB β s.1 m y / 7 ∧ MP c β (sayS β s m y) (pushN n) (pushP n pl s))) ∧ dF ct c) = Po
  refine Mt.of rfl (Nat.le_of_ble_eq_true rfl) ?_
  show G _ 0 [some (.inr (.inr 92)), some (.inl m), some (.inl y), none] [] sh ct
  refine g_aload_n (q := 1) dX12_say_0 rfl rfl ?_
  refine g_iconst (q := 2) dX12_say_1 rfl ?_
  refine g_putI (q := 5) (kI := 0) fX12_1 (by first | assumption | exact S.at _ rfl) dX12_say_2 rfl rfl ?_
  refine g_aload_n (q := 6) dX12_say_5 rfl rfl ?_
  refine g_iload_n (q := 7) dX12_say_6 rfl rfl ?_
  refine g_i2l (q := 8) dX12_say_7 rfl ?_
  refine g_iload_n (q := 9) dX12_say_8 rfl rfl ?_
  refine g_i2l (q := 10) dX12_say_9 rfl ?_
  rw [w32_id (x := m) hm2.1 hm2.2, w32_id (x := y) hy2.1 hy2.2]
  refine g_callV (q := 13) lX12_274 mX12_whySay nX12_whySay rfl (tw_whySay d sh _ S M0.1 (by unfold i64; omega) (by unfold i64; omega)) (by first | assumption | exact S.at _ rfl) rfl rfl shLe.rf (rmOk.mk (by omega) (by first | exact shLe.rf | assumption)) (Nat.le_of_ble_eq_true rfl) dX12_say_10 rfl rfl (kI fun r c1 hp => ?_)
  obtain ⟨rfl, e1⟩ := hp
  have M1 : MP c1 β s n pl := M0.eq (M0.1.1.eb e1 rfl) (e1 93 (by decide))
  have f1 := f0.tr (dF.of e1 rfl (frJ.of (e1 93 (by decide))))
  have hr3 : whyS β s m y = 0 ∨ whyS β s m y = 1 ∨ whyS β s m y = 2 := by
    unfold whyS
    (repeat' split) <;> omega
  refine s_istore_n_4_3 (q := 14) dX12_say_13 rfl rfl rfl ?_
  refine g_iload_n (q := 15) dX12_say_14 rfl rfl ?_
  refine g_if_eq (q := 18) (tg := 23) dX12_say_15 (by decide) rfl (fun c_15 => ?_) (fun c_15 => ?_)
  · have h0 : whyS β s m y = 0 := by unfold w32 at c_15; omega
    have hval : (0 ≤ m ∧ m < β.n 2) ∧ 0 ≤ y ∧ y < β.n 3 := by
      apply Decidable.byContradiction
      intro z
      unfold whyS at h0
      rw [if_neg z] at h0
      omega
    refine g_aload_n (q := 24) dX12_say_23 rfl rfl ?_
    refine g_callV (q := 27) lX12_278 mX12_keeps nX12_keeps rfl (tw_keeps (d + 4) sh _ S M1.1.1 M1.1.2.2.1) (by first | assumption | exact S.at _ rfl) rfl rfl shLe.rf (rmOk.mk (by omega) (by first | exact shLe.rf | assumption)) (Nat.le_of_ble_eq_true rfl) dX12_say_24 rfl rfl (kN fun c2 hp => ?_)
    obtain ⟨k2, e2⟩ := hp
    have M2 : MP c2 β s n pl := M1.eq (M1.1.1.eb e2 rfl) (e2 93 (by decide))
    refine g_aload_n (q := 28) dX12_say_27 rfl rfl ?_
    refine g_iload_n (q := 29) dX12_say_28 rfl rfl ?_
    refine g_iload_n (q := 30) dX12_say_29 rfl rfl ?_
    refine g_callV (q := 33) lX12_281 mX12_says nX12_says rfl (tw_says (d + 2) sh _ S M2.1 (by omega) (by omega) (by omega) (by omega)) (by first | assumption | exact S.at _ rfl) rfl rfl shLe.rf (rmOk.mk (by omega) (by first | exact shLe.rf | assumption)) (Nat.le_of_ble_eq_true rfl) dX12_say_30 rfl rfl (kN fun c3 hp => ?_)
    obtain ⟨M3, fr3, e3⟩ := hp
    have M3' : MP c3 β (sayS β s m y) n pl := ⟨M3, M2.2.fr fr3⟩
    refine g_aload_n (q := 34) dX12_say_33 rfl rfl ?_
    refine g_callV (q := 37) lX12_285 mX12_notes nX12_notes rfl (tw_notes (d + 4) sh _ S M3' (w := s) (by rw [e3 99 (by decide)]; exact k2) M.1.2.2.2) (by first | assumption | exact S.at _ rfl) rfl rfl shLe.rf (rmOk.mk (by omega) (by first | exact shLe.rf | assumption)) (Nat.le_of_ble_eq_true rfl) dX12_say_34 rfl rfl (kN fun c4 hp => ?_)
    obtain ⟨M4, e4, fr4⟩ := hp
    refine g_aload_n (q := 38) dX12_say_37 rfl rfl ?_
    refine g_callV (q := 41) lX12_288 mX12_toneHeat nX12_toneHeat rfl (tw_toneHeat (d + 4) sh _ S M4.1) (by first | assumption | exact S.at _ rfl) rfl rfl shLe.rf (rmOk.mk (by omega) (by first | exact shLe.rf | assumption)) (Nat.le_of_ble_eq_true rfl) dX12_say_38 rfl rfl (kI fun r_ c_ hp => ?_)
    obtain ⟨hr, hq⟩ := hp
    replace hr := hr.symm
    replace hq := hq.symm
    subst hr hq
    refine g_ireturn dX12_say_41 rfl ?_
    rw [← hP]
    exact ⟨_, rfl, Or.inr ⟨h0, rfl, M4⟩, ((f1.tr (dF.of e2 rfl (frJ.of (e2 93 (by decide))))).tr (dF.of e3 rfl (fr3.mono (by decide) (by decide)))).tr (dF.of e4 rfl (fr4.mono (by decide) (by decide)))⟩
  · refine g_bipush (q := 20) dX12_say_18 (by decide +kernel) rfl ?_
    refine g_iload_n (q := 21) dX12_say_20 rfl rfl ?_
    refine g_isub (q := 22) dX12_say_21 rfl ?_
    refine g_ireturn dX12_say_22 rfl ?_
    rw [← hP]
    exact ⟨_, rfl, Or.inl ⟨fun z => c_15 (by rw [z]; rfl), rfl, M1⟩, f1⟩
def mrkOk (β : Bk) (m v : Int) : Prop := (0 ≤ m ∧ m < β.n 2) ∧ 0 ≤ v ∧ v ≤ 9
theorem mark_MA {c : mbCt} {m v : Int} (M : MA ct β s) (m0 : 0 ≤ m) (m1 : m < 6) (v0 : 0 ≤ v) (v1 : v ≤ 9) (hc : c = wr ct 93 (32 + m) v) : MA c β (mrkS s m v) ∧ frJ 28 38 ct c ∧ eqBut [93] ct c := by
  have e : eqBut [93] ct c := by
    rw [hc]
    exact eqBut.rf.wr (by decide)
  have fr : frJ 28 38 ct c := by
    intro j hj
    rw [hc, wr_nk (by omega)]
  obtain ⟨a1, a2, a3, a4, a5⟩ := M.2.2.1
  refine ⟨M.fr (M.1.eb e rfl) (fr.mono (by decide) (by decide)) ⟨?_, ?_, ?_, ?_, fun k k0 k1 => ?_⟩ (mrkS_B M.2.2.2 v0 v1), fr, e⟩
  · rw [hc, wr_nk (by omega)]
    exact a1
  · rw [hc, wr_nk (by omega)]
    exact a2
  · rw [hc, wr_nk (by omega)]
    exact a3
  · rw [hc, wr_nk (by omega)]
    exact a4
  · show c 93 (28 + 4 + k) = if k = m then v else s.2.2 k
    by_cases hk : k = m
    · subst hk
      rw [if_pos rfl, hc, show (28 : Int) + 4 + k = 32 + k by omega, wr_eq]
    · rw [if_neg hk, hc, wr_nk (by omega)]
      exact a5 k k0 k1
theorem tw_mark {m v : Int} (S : SH sh) (M : MP ct β s n pl) (hm : i32 m) (hv : i32 v) : Mt YX12_mark (d + 5) [.inr (.inr 92), .inl m, .inl v] sh sh ct (pI fun r c => ((¬ mrkOk β m v ∧ r = -11 ∧ MP c β s n pl) ∨ (mrkOk β m v ∧ r = s.2.2 m ∧ MP c β (mrkS s m v) (pushN n) (pushP n pl s))) ∧ dF ct c) := by
  unfold i32 at hm hv
  have hB := M.1.2.1.2.2.1
  have hb2 := hB.2.2.1
  have M0 := M.th (k := 0) (v := 0) (Or.inl rfl)
  have f0 := dF.th (ct := ct) (k := 0) (v := 0) (Or.inl rfl)
  have s93 : shA sh 93 = some (20, 3120) := S.at _ rfl
  have s99 : shA sh 99 = some (20, 10) := S.at _ rfl
  generalize hP : (pI fun r c => ((¬ mrkOk β m v ∧ r = -11 ∧ MP c β s n pl) ∨ (mrkOk β m v ∧ r = s.2.2 m ∧ MP c β (mrkS s m v) (pushN n) (pushP n pl s))) ∧ dF ct c) = Po
  refine Mt.of rfl (Nat.le_of_ble_eq_true rfl) ?_
  show G _ 0 [some (.inr (.inr 92)), some (.inl m), some (.inl v)] [] sh ct
  refine g_aload_n (q := 1) dX12_mark_0 rfl rfl ?_
  refine g_iconst (q := 2) dX12_mark_1 rfl ?_
  refine g_putI (q := 5) (kI := 0) fX12_1 (by first | assumption | exact S.at _ rfl) dX12_mark_2 rfl rfl ?_
  refine g_aload_n (q := 6) dX12_mark_5 rfl rfl ?_
  refine g_iload_n (q := 7) dX12_mark_6 rfl rfl ?_
  refine g_i2l (q := 8) dX12_mark_7 rfl ?_
  rw [w32_id (x := m) hm.1 hm.2]
  refine g_callV (q := 11) lX12_220 mX12_isMember nX12_isMember rfl (tw_isMember (d + 3) sh _ M0.1.md S (by unfold i64; omega)) (by first | assumption | exact S.at _ rfl) rfl rfl shLe.rf (rmOk.mk (by omega) (by first | exact shLe.rf | assumption)) (Nat.le_of_ble_eq_true rfl) dX12_mark_8 rfl rfl (kI fun r_ c_ hp => ?_)
  obtain ⟨hr, hq⟩ := hp
  replace hr := hr.symm
  replace hq := hq.symm
  subst hr hq
  have bad : ¬ mrkOk β m v → Po (some (.inl (-11))) (wr ct 92 0 0) := by
    intro h
    rw [← hP]
    exact ⟨_, rfl, Or.inl ⟨h, rfl, M0⟩, f0⟩
  refine g_if_eq (q := 14) (tg := 26) dX12_mark_11 (by decide) rfl (fun c_11 => ?_) (fun c_11 => ?_)
  · refine g_bipush (q := 28) dX12_mark_26 (by decide +kernel) rfl ?_
    refine g_ireturn dX12_mark_28 rfl ?_
    exact bad (fun z => wb0.mp c_11 z.1)
  · have h11 := wbn.mp c_11
    refine g_iload_n (q := 15) dX12_mark_14 rfl rfl ?_
    refine g_i2l (q := 16) dX12_mark_15 rfl ?_
    refine g_lconst0 (q := 17) dX12_mark_16 rfl ?_
    refine g_ldc2 (q := 20) dX12_mark_17 kX12_193 rfl ?_
    rw [w32_id (x := v) hv.1 hv.2]
    refine g_callS (q := 23) lX12_150 mX12_within sX12_within rfl (tw_within (d + 4) sh _) shLe.rf (rmOk.mk (by omega) (by first | exact shLe.rf | assumption)) (Nat.le_of_ble_eq_true rfl) dX12_mark_20 rfl rfl (kI fun r_ c_ hp => ?_)
    obtain ⟨hr, hq⟩ := hp
    replace hr := hr.symm
    replace hq := hq.symm
    subst hr hq
    refine g_if_ne (q := 26) (tg := 29) dX12_mark_23 (by decide) rfl (fun c_23 => ?_) (fun c_23 => ?_)
    · have h23 : 0 ≤ v ∧ v ≤ 9 := by
        have := wbn.mp c_23
        unfold w64 at this
        omega
      refine g_aload_n (q := 30) dX12_mark_29 rfl rfl ?_
      refine g_callV (q := 33) lX12_278 mX12_keeps nX12_keeps rfl (tw_keeps (d + 4) sh _ S M0.1.1 M0.1.2.2.1) (by first | assumption | exact S.at _ rfl) rfl rfl shLe.rf (rmOk.mk (by omega) (by first | exact shLe.rf | assumption)) (Nat.le_of_ble_eq_true rfl) dX12_mark_30 rfl rfl (kN fun c2 hp => ?_)
      obtain ⟨k2, e2⟩ := hp
      have M2 : MP c2 β s n pl := M0.eq (M0.1.1.eb e2 rfl) (e2 93 (by decide))
      have L2 := M2.1.1
      have hk : c2 99 (4 + m) = s.2.2 m := by
        have := k2.2.2.2.2 m (by omega) (by omega)
        rw [Int.zero_add] at this
        exact this
      refine g_aload_n (q := 34) dX12_mark_33 rfl rfl ?_
      refine g_getA (q := 37) (kI := 1) fX12_13 (by first | assumption | exact S.at _ rfl) dX12_mark_34 rfl rfl (by first | assumption | exact L.at _ _ rfl | exact LK.at (by assumption) _ _ rfl | ((repeat first | rewrite [wr_na (by decide)] | rewrite [wr_nk (by decide)] | rewrite [wa_na (by decide)]); first | assumption | exact LK.at (by assumption) _ _ rfl) | exact rfl) ?_
      refine g_bipush (q := 39) dX12_mark_37 (by decide +kernel) rfl ?_
      refine g_iload_n (q := 40) dX12_mark_39 rfl rfl ?_
      refine g_iadd (q := 41) dX12_mark_40 rfl ?_
      refine g_iload_n (q := 42) dX12_mark_41 rfl rfl ?_
      refine g_iastore (q := 43) (by first | assumption | exact S.at _ rfl) (by omega) (by omega) (by omega) dX12_mark_42 rfl ?_
      obtain ⟨M3, fr3, e3⟩ := mark_MA c2 M2.1 (c := wr c2 93 (32 + m) v) h11.1 (by omega) h23.1 h23.2 rfl
      have M3' : MP (wr c2 93 (32 + m) v) β (mrkS s m v) n pl := ⟨M3, M2.2.fr fr3⟩
      refine g_aload_n (q := 44) dX12_mark_43 rfl rfl ?_
      refine g_callV (q := 47) lX12_285 mX12_notes nX12_notes rfl (tw_notes (d + 4) sh _ S M3' (w := s) (by rw [e3 99 (by decide)]; exact k2) M.1.2.2.2) (by first | assumption | exact S.at _ rfl) rfl rfl shLe.rf (rmOk.mk (by omega) (by first | exact shLe.rf | assumption)) (Nat.le_of_ble_eq_true rfl) dX12_mark_44 rfl rfl (kN fun c4 hp => ?_)
      obtain ⟨M4, e4, fr4⟩ := hp
      have L4 := M4.1.1
      have h99 : c4 99 (4 + m) = s.2.2 m := by rw [e4 99 (by decide), e3 99 (by decide)]; exact hk
      refine g_aload_n (q := 48) dX12_mark_47 rfl rfl ?_
      refine g_getA (q := 51) (kI := 18) fX12_36 (by first | assumption | exact S.at _ rfl) dX12_mark_48 rfl rfl (by first | assumption | exact L.at _ _ rfl | exact LK.at (by assumption) _ _ rfl | ((repeat first | rewrite [wr_na (by decide)] | rewrite [wr_nk (by decide)] | rewrite [wa_na (by decide)]); first | assumption | exact LK.at (by assumption) _ _ rfl) | exact rfl) ?_
      refine g_iconst (q := 52) dX12_mark_51 rfl ?_
      refine g_iload_n (q := 53) dX12_mark_52 rfl rfl ?_
      refine g_iadd (q := 54) dX12_mark_53 rfl ?_
      refine g_iaload (q := 55) (by first | assumption | exact S.at _ rfl) (by omega) (by omega) (by omega) dX12_mark_54 rfl ?_
      refine g_ireturn dX12_mark_55 rfl ?_
      rw [← hP]
      exact ⟨_, rfl, Or.inr ⟨⟨h11, h23⟩, h99, M4⟩, ((f0.tr (dF.of e2 rfl (frJ.of (e2 93 (by decide))))).tr (dF.of e3 rfl (fr3.mono (by decide) (by decide)))).tr (dF.of e4 rfl (fr4.mono (by decide) (by decide)))⟩
    · refine g_bipush (q := 28) dX12_mark_26 (by decide +kernel) rfl ?_
      refine g_ireturn dX12_mark_28 rfl ?_
      exact bad (fun z => by have := wb0.mp c_23; have := z.2; unfold w64 at *; omega)
theorem tw_adjourn (S : SH sh) (M : MP ct β s n pl) : Mt YX12_adjourn (d + 1) [.inr (.inr 92)] sh sh ct (pI fun r c => r = s.2.1 ∧ MP c β (adjS β s) (pushN n) (pushP n pl s) ∧ dF ct c) := by
  have M0 := M.th (k := 0) (v := 0) (Or.inl rfl)
  have f0 := dF.th (ct := ct) (k := 0) (v := 0) (Or.inl rfl)
  have s99 : shA sh 99 = some (20, 10) := S.at _ rfl
  refine Mt.of rfl (Nat.le_of_ble_eq_true rfl) ?_
  show G _ 0 [some (.inr (.inr 92))] [] sh ct
  refine g_aload_n (q := 1) dX12_adjourn_0 rfl rfl ?_
  refine g_iconst (q := 2) dX12_adjourn_1 rfl ?_
  refine g_putI (q := 5) (kI := 0) fX12_1 (by first | assumption | exact S.at _ rfl) dX12_adjourn_2 rfl rfl ?_
  refine g_aload_n (q := 6) dX12_adjourn_5 rfl rfl ?_
  refine g_callV (q := 9) lX12_278 mX12_keeps nX12_keeps rfl (tw_keeps d sh _ S M0.1.1 M0.1.2.2.1) (by first | assumption | exact S.at _ rfl) rfl rfl shLe.rf (rmOk.mk (by omega) (by first | exact shLe.rf | assumption)) (Nat.le_of_ble_eq_true rfl) dX12_adjourn_6 rfl rfl (kN fun c2 hp => ?_)
  obtain ⟨k2, e2⟩ := hp
  have M2 : MP c2 β s n pl := M0.eq (M0.1.1.eb e2 rfl) (e2 93 (by decide))
  refine g_aload_n (q := 10) dX12_adjourn_9 rfl rfl ?_
  refine g_callV (q := 13) lX12_213 mX12_adjourns nX12_adjourns rfl (tw_adjourns d sh _ S M2.1) (by first | assumption | exact S.at _ rfl) rfl rfl shLe.rf (rmOk.mk (by omega) (by first | exact shLe.rf | assumption)) (Nat.le_of_ble_eq_true rfl) dX12_adjourn_10 rfl rfl (kN fun c3 hp => ?_)
  obtain ⟨M3, fr3, e3⟩ := hp
  have M3' : MP c3 β (adjS β s) n pl := ⟨M3, M2.2.fr fr3⟩
  refine g_aload_n (q := 14) dX12_adjourn_13 rfl rfl ?_
  refine g_callV (q := 17) lX12_285 mX12_notes nX12_notes rfl (tw_notes d sh _ S M3' (w := s) (by rw [e3 99 (by decide)]; exact k2) M.1.2.2.2) (by first | assumption | exact S.at _ rfl) rfl rfl shLe.rf (rmOk.mk (by omega) (by first | exact shLe.rf | assumption)) (Nat.le_of_ble_eq_true rfl) dX12_adjourn_14 rfl rfl (kN fun c4 hp => ?_)
  obtain ⟨M4, e4, fr4⟩ := hp
  have L4 := M4.1.1
  have h99 : c4 99 3 = s.2.1 := by
    rw [e4 99 (by decide), e3 99 (by decide)]
    exact k2.2.2.2.1
  refine g_aload_n (q := 18) dX12_adjourn_17 rfl rfl ?_
  refine g_getA (q := 21) (kI := 18) fX12_36 (by first | assumption | exact S.at _ rfl) dX12_adjourn_18 rfl rfl (by first | assumption | exact L.at _ _ rfl | exact LK.at (by assumption) _ _ rfl | ((repeat first | rewrite [wr_na (by decide)] | rewrite [wr_nk (by decide)] | rewrite [wa_na (by decide)]); first | assumption | exact LK.at (by assumption) _ _ rfl) | exact rfl) ?_
  refine g_iconst (q := 22) dX12_adjourn_21 rfl ?_
  refine g_iaload (q := 23) (by first | assumption | exact S.at _ rfl) (by omega) (by omega) (by omega) dX12_adjourn_22 rfl ?_
  refine g_ireturn dX12_adjourn_23 rfl ?_
  exact ⟨_, rfl, h99, M4, ((f0.tr (dF.of e2 rfl (frJ.of (e2 93 (by decide))))).tr (dF.of e3 rfl (fr3.mono (by decide) (by decide)))).tr (dF.of e4 rfl (fr4.mono (by decide) (by decide)))⟩
theorem tw_undo {v : Int} (S : SH sh) (M : MP ct β s n pl) (hv : i32 v) : Mt YX12_undo (d + 1) [.inr (.inr 92), .inl v] sh sh ct (pI fun r c => ((¬ (1 ≤ v ∧ v ≤ n) ∧ r = -3 ∧ MP c β s n pl) ∨ ((1 ≤ v ∧ v ≤ n) ∧ r = n - v ∧ MP c β (pl (n - v)) (n - v) pl)) ∧ dF ct c) := by
  unfold i32 at hv
  have M0 := M.th (k := 0) (v := 0) (Or.inl rfl)
  have f0 := dF.th (ct := ct) (k := 0) (v := 0) (Or.inl rfl)
  have s93 : shA sh 93 = some (20, 3120) := S.at _ rfl
  have L0 := M0.1.1
  obtain ⟨p1, p2, p3⟩ := M0.2
  generalize hP : (pI fun r c => ((¬ (1 ≤ v ∧ v ≤ n) ∧ r = -3 ∧ MP c β s n pl) ∨ ((1 ≤ v ∧ v ≤ n) ∧ r = n - v ∧ MP c β (pl (n - v)) (n - v) pl)) ∧ dF ct c) = Po
  refine Mt.of rfl (Nat.le_of_ble_eq_true rfl) ?_
  show G _ 0 [some (.inr (.inr 92)), some (.inl v), none] [] sh ct
  refine g_aload_n (q := 1) dX12_undo_0 rfl rfl ?_
  refine g_iconst (q := 2) dX12_undo_1 rfl ?_
  refine g_putI (q := 5) (kI := 0) fX12_1 (by first | assumption | exact S.at _ rfl) dX12_undo_2 rfl rfl ?_
  refine g_iload_n (q := 6) dX12_undo_5 rfl rfl ?_
  refine g_i2l (q := 7) dX12_undo_6 rfl ?_
  refine g_lconst1 (q := 8) dX12_undo_7 rfl ?_
  refine g_ldc2 (q := 11) dX12_undo_8 kX12_218 rfl ?_
  rw [w32_id (x := v) hv.1 hv.2]
  generalize hc0 : wr ct 92 0 0 = c0 at *
  refine g_callS (q := 14) lX12_150 mX12_within sX12_within rfl (tw_within d sh _) shLe.rf (rmOk.mk (by omega) (by first | exact shLe.rf | assumption)) (Nat.le_of_ble_eq_true rfl) dX12_undo_11 rfl rfl (kI fun r_ c_ hp => ?_)
  obtain ⟨hr, hq⟩ := hp
  replace hr := hr.symm
  replace hq := hq.symm
  subst hr hq
  have bad : ¬ (1 ≤ v ∧ v ≤ n) → Po (some (.inl (-3))) c0 := by
    intro h
    rw [← hP]
    exact ⟨_, rfl, Or.inl ⟨h, rfl, M0⟩, f0⟩
  refine g_if_eq (q := 17) (tg := 28) dX12_undo_14 (by decide) rfl (fun c_14 => ?_) (fun c_14 => ?_)
  · refine g_bipush (q := 30) dX12_undo_28 (by decide +kernel) rfl ?_
    refine g_ireturn dX12_undo_30 rfl ?_
    exact bad (fun z => by have := wb0.mp c_14; unfold w64 at this; omega)
  · have h14 : 1 ≤ v ∧ v ≤ 10 := by
      have := wbn.mp c_14
      unfold w64 at this
      omega
    refine g_iload_n (q := 18) dX12_undo_17 rfl rfl ?_
    refine g_aload_n (q := 19) dX12_undo_18 rfl rfl ?_
    refine g_getA (q := 22) (kI := 1) fX12_13 (by first | assumption | exact S.at _ rfl) dX12_undo_19 rfl rfl (by first | assumption | exact L.at _ _ rfl | exact LK.at (by assumption) _ _ rfl | ((repeat first | rewrite [wr_na (by decide)] | rewrite [wr_nk (by decide)] | rewrite [wa_na (by decide)]); first | assumption | exact LK.at (by assumption) _ _ rfl) | exact rfl) ?_
    refine g_bipush (q := 24) dX12_undo_22 (by decide +kernel) rfl ?_
    refine g_iaload (q := 25) (by first | assumption | exact S.at _ rfl) (by omega) (by omega) (by omega) dX12_undo_24 rfl ?_
    refine g_icmp_le (q := 28) (tg := 31) dX12_undo_25 (by decide) rfl (fun c_25 => ?_) (fun c_25 => ?_)
    · rw [p1] at c_25
      have hvn : v ≤ n := by unfold w32 at c_25; omega
      refine g_aload_n (q := 32) dX12_undo_31 rfl rfl ?_
      refine g_getA (q := 35) (kI := 1) fX12_13 (by first | assumption | exact S.at _ rfl) dX12_undo_32 rfl rfl (by first | assumption | exact L.at _ _ rfl | exact LK.at (by assumption) _ _ rfl | ((repeat first | rewrite [wr_na (by decide)] | rewrite [wr_nk (by decide)] | rewrite [wa_na (by decide)]); first | assumption | exact LK.at (by assumption) _ _ rfl) | exact rfl) ?_
      refine g_bipush (q := 37) dX12_undo_35 (by decide +kernel) rfl ?_
      refine g_dup2 (q := 38) dX12_undo_37 rfl rfl rfl ?_
      refine g_iaload (q := 39) (by first | assumption | exact S.at _ rfl) (by omega) (by omega) (by omega) dX12_undo_38 rfl ?_
      rw [p1]
      refine g_iload_n (q := 40) dX12_undo_39 rfl rfl ?_
      refine g_isub (q := 41) dX12_undo_40 rfl ?_
      refine g_iastore (q := 42) (by first | assumption | exact S.at _ rfl) (by omega) (by omega) (by omega) dX12_undo_41 rfl ?_
      refine g_iconst (q := 43) dX12_undo_42 rfl ?_
      refine s_istore_n_3_2 (q := 44) dX12_undo_43 rfl rfl rfl ?_
      have hk := p3 (n - v) (by omega) (by omega)
      refine g_for (fun k => [some (.inr (.inr 92)), some (.inl v), some (.inl k)]) (fun k c => 0 ≤ k ∧ eqBut [93] c0 c ∧ c 93 38 = n - v ∧ (∀ j, (j < 28 ∨ 39 ≤ j) → c 93 j = c0 93 j) ∧ ∀ j, 0 ≤ j → j < k → c 93 (28 + j) = c0 93 (39 + 10 * (n - v) + j)) 10 ?_ ?_ (i := 0) (by omega) ⟨by omega, eqBut.rf.wr (by decide), wr_eq, fun j hj => wr_nk (by omega), fun j _ _ => by omega⟩ (by simp [lsSub])
      · rintro k c hk10 ⟨k0, e, h38, fr, hj⟩ kk
        have L1 : LK c := L0.eb e rfl
        have hval : c 93 (39 + 10 * (n - v) + k) = c0 93 (39 + 10 * (n - v) + k) := fr _ (by omega)
        refine g_iload_n (q := 45) dX12_undo_44 rfl rfl ?_
        refine g_bipush (q := 47) dX12_undo_45 (by decide +kernel) rfl ?_
        refine g_icmp_ge (q := 50) (tg := 85) dX12_undo_47 (by decide) rfl (fun c_47 => ?_) (fun c_47 => ?_)
        · exact absurd c_47 (by unfold w32; omega)
        · refine g_aload_n (q := 51) dX12_undo_50 rfl rfl ?_
          refine g_getA (q := 54) (kI := 1) fX12_13 (by first | assumption | exact S.at _ rfl) dX12_undo_51 rfl rfl (by first | assumption | exact L.at _ _ rfl | exact LK.at (by assumption) _ _ rfl | ((repeat first | rewrite [wr_na (by decide)] | rewrite [wr_nk (by decide)] | rewrite [wa_na (by decide)]); first | assumption | exact LK.at (by assumption) _ _ rfl) | exact rfl) ?_
          refine g_bipush (q := 56) dX12_undo_54 (by decide +kernel) rfl ?_
          refine g_iload_n (q := 57) dX12_undo_56 rfl rfl ?_
          refine g_iadd (q := 58) dX12_undo_57 rfl ?_
          refine g_aload_n (q := 59) dX12_undo_58 rfl rfl ?_
          refine g_getA (q := 62) (kI := 1) fX12_13 (by first | assumption | exact S.at _ rfl) dX12_undo_59 rfl rfl (by first | assumption | exact L.at _ _ rfl | exact LK.at (by assumption) _ _ rfl | ((repeat first | rewrite [wr_na (by decide)] | rewrite [wr_nk (by decide)] | rewrite [wa_na (by decide)]); first | assumption | exact LK.at (by assumption) _ _ rfl) | exact rfl) ?_
          refine g_bipush (q := 64) dX12_undo_62 (by decide +kernel) rfl ?_
          refine g_bipush (q := 66) dX12_undo_64 (by decide +kernel) rfl ?_
          refine g_aload_n (q := 67) dX12_undo_66 rfl rfl ?_
          refine g_getA (q := 70) (kI := 1) fX12_13 (by first | assumption | exact S.at _ rfl) dX12_undo_67 rfl rfl (by first | assumption | exact L.at _ _ rfl | exact LK.at (by assumption) _ _ rfl | ((repeat first | rewrite [wr_na (by decide)] | rewrite [wr_nk (by decide)] | rewrite [wa_na (by decide)]); first | assumption | exact LK.at (by assumption) _ _ rfl) | exact rfl) ?_
          refine g_bipush (q := 72) dX12_undo_70 (by decide +kernel) rfl ?_
          refine g_iaload (q := 73) (by first | assumption | exact S.at _ rfl) (by omega) (by omega) (by omega) dX12_undo_72 rfl ?_
          rw [h38]
          refine g_imul (q := 74) dX12_undo_73 rfl ?_
          refine g_iadd (q := 75) dX12_undo_74 rfl ?_
          refine g_iload_n (q := 76) dX12_undo_75 rfl rfl ?_
          refine g_iadd (q := 77) dX12_undo_76 rfl ?_
          refine g_iaload (q := 78) (by first | assumption | exact S.at _ rfl) (by omega) (by omega) (by omega) dX12_undo_77 rfl ?_
          rw [hval]
          refine g_iastore (q := 79) (by first | assumption | exact S.at _ rfl) (by omega) (by omega) (by omega) dX12_undo_78 rfl ?_
          refine s_iinc_3_2 (q := 82) dX12_undo_79 rfl rfl rfl ?_
          refine g_goto (q := 44) dX12_undo_82 (by decide) ?_
          refine kk _ _ (by simp [lsSub]) ⟨by omega, e.wr (by decide), by rw [wr_nk (by omega)]; exact h38, fun j hj2 => ?_, fun j a b => ?_⟩
          · rw [wr_nk (by omega)]
            exact fr j hj2
          · by_cases hjk : j = k
            · subst hjk
              rw [wr_eq]
            · rw [wr_nk (by omega)]
              exact hj j a (by omega)
      · rintro c ⟨-, e, h38, fr, hj⟩
        have L1 : LK c := L0.eb e rfl
        refine g_iload_n (q := 45) dX12_undo_44 rfl rfl ?_
        refine g_bipush (q := 47) dX12_undo_45 (by decide +kernel) rfl ?_
        refine g_icmp_ge (q := 50) (tg := 85) dX12_undo_47 (by decide) rfl (fun c_47 => ?_) (fun c_47 => ?_)
        · refine g_aload_n (q := 86) dX12_undo_85 rfl rfl ?_
          refine g_getA (q := 89) (kI := 1) fX12_13 (by first | assumption | exact S.at _ rfl) dX12_undo_86 rfl rfl (by first | assumption | exact L.at _ _ rfl | exact LK.at (by assumption) _ _ rfl | ((repeat first | rewrite [wr_na (by decide)] | rewrite [wr_nk (by decide)] | rewrite [wa_na (by decide)]); first | assumption | exact LK.at (by assumption) _ _ rfl) | exact rfl) ?_
          refine g_bipush (q := 91) dX12_undo_89 (by decide +kernel) rfl ?_
          refine g_iaload (q := 92) (by first | assumption | exact S.at _ rfl) (by omega) (by omega) (by omega) dX12_undo_91 rfl ?_
          refine g_ireturn dX12_undo_92 rfl ?_
          rw [← hP, h38]
          refine ⟨_, rfl, Or.inr ⟨⟨h14.1, hvn⟩, rfl, ⟨M0.1.fr L1 (fun j hj2 => fr j (by omega)) (hk.1.cp hj) hk.2, h38, by omega, fun k k0 k1 => ?_⟩⟩, f0.tr (dF.of e rfl (fun j hj2 => fr j (by omega)))⟩
          have := p3 k k0 (by omega)
          exact ⟨this.1.cp (fun j a b => fr _ (by omega)), this.2⟩
        · exact absurd c_47 (by decide)
    · rw [p1] at c_25
      refine g_bipush (q := 30) dX12_undo_28 (by decide +kernel) rfl ?_
      refine g_ireturn dX12_undo_30 rfl ?_
      exact bad (fun z => by unfold w32 at c_25; omega)
end
