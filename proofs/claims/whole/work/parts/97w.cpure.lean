/-! what is read, as a function of the tokens; the class's small steps of reading -/
theorem dX6_step_0 : decode cX6_step 0 = .ok (.aload_n 0, 1) := by decide +kernel
theorem dX6_step_1 : decode cX6_step 1 = .ok (.getfield 51, 3) := by decide +kernel
theorem dX6_step_4 : decode cX6_step 4 = .ok (.sipush 203, 3) := by decide +kernel
theorem dX6_step_7 : decode cX6_step 7 = .ok (.if_icmp .eq 39, 3) := by decide +kernel
theorem dX6_step_10 : decode cX6_step 10 = .ok (.aload_n 0, 1) := by decide +kernel
theorem dX6_step_11 : decode cX6_step 11 = .ok (.getfield 48, 3) := by decide +kernel
theorem dX6_step_14 : decode cX6_step 14 = .ok (.iconst 1, 1) := by decide +kernel
theorem dX6_step_15 : decode cX6_step 15 = .ok (.iadd, 1) := by decide +kernel
theorem dX6_step_16 : decode cX6_step 16 = .ok (.aload_n 0, 1) := by decide +kernel
theorem dX6_step_17 : decode cX6_step 17 = .ok (.getfield 57, 3) := by decide +kernel
theorem dX6_step_20 : decode cX6_step 20 = .ok (.if_icmp .ge 26, 3) := by decide +kernel
theorem dX6_step_23 : decode cX6_step 23 = .ok (.aload_n 0, 1) := by decide +kernel
theorem dX6_step_24 : decode cX6_step 24 = .ok (.dup, 1) := by decide +kernel
theorem dX6_step_25 : decode cX6_step 25 = .ok (.getfield 48, 3) := by decide +kernel
theorem dX6_step_28 : decode cX6_step 28 = .ok (.iconst 1, 1) := by decide +kernel
theorem dX6_step_29 : decode cX6_step 29 = .ok (.iadd, 1) := by decide +kernel
theorem dX6_step_30 : decode cX6_step 30 = .ok (.putfield 48, 3) := by decide +kernel
theorem dX6_step_33 : decode cX6_step 33 = .ok (.aload_n 0, 1) := by decide +kernel
theorem dX6_step_34 : decode cX6_step 34 = .ok (.aload_n 0, 1) := by decide +kernel
theorem dX6_step_35 : decode cX6_step 35 = .ok (.getfield 15, 3) := by decide +kernel
theorem dX6_step_38 : decode cX6_step 38 = .ok (.aload_n 0, 1) := by decide +kernel
theorem dX6_step_39 : decode cX6_step 39 = .ok (.getfield 48, 3) := by decide +kernel
theorem dX6_step_42 : decode cX6_step 42 = .ok (.iaload, 1) := by decide +kernel
theorem dX6_step_43 : decode cX6_step 43 = .ok (.putfield 51, 3) := by decide +kernel
theorem dX6_step_46 : decode cX6_step 46 = .ok (.return_, 1) := by decide +kernel
theorem dX6_fail_0 : decode cX6_fail 0 = .ok (.aload_n 0, 1) := by decide +kernel
theorem dX6_fail_1 : decode cX6_fail 1 = .ok (.getfield 30, 3) := by decide +kernel
theorem dX6_fail_4 : decode cX6_fail 4 = .ok (.ifCond .ne 35, 3) := by decide +kernel
theorem dX6_fail_7 : decode cX6_fail 7 = .ok (.aload_n 0, 1) := by decide +kernel
theorem dX6_fail_8 : decode cX6_fail 8 = .ok (.aload_n 0, 1) := by decide +kernel
theorem dX6_fail_9 : decode cX6_fail 9 = .ok (.getfield 51, 3) := by decide +kernel
theorem dX6_fail_12 : decode cX6_fail 12 = .ok (.sipush 202, 3) := by decide +kernel
theorem dX6_fail_15 : decode cX6_fail 15 = .ok (.if_icmp .ne 7, 3) := by decide +kernel
theorem dX6_fail_18 : decode cX6_fail 18 = .ok (.iconst 1, 1) := by decide +kernel
theorem dX6_fail_19 : decode cX6_fail 19 = .ok (.goto 4, 3) := by decide +kernel
theorem dX6_fail_22 : decode cX6_fail 22 = .ok (.iload_n 1, 1) := by decide +kernel
theorem dX6_fail_23 : decode cX6_fail 23 = .ok (.putfield 30, 3) := by decide +kernel
theorem dX6_fail_26 : decode cX6_fail 26 = .ok (.aload_n 0, 1) := by decide +kernel
theorem dX6_fail_27 : decode cX6_fail 27 = .ok (.aload_n 0, 1) := by decide +kernel
theorem dX6_fail_28 : decode cX6_fail 28 = .ok (.getfield 19, 3) := by decide +kernel
theorem dX6_fail_31 : decode cX6_fail 31 = .ok (.aload_n 0, 1) := by decide +kernel
theorem dX6_fail_32 : decode cX6_fail 32 = .ok (.getfield 48, 3) := by decide +kernel
theorem dX6_fail_35 : decode cX6_fail 35 = .ok (.iaload, 1) := by decide +kernel
theorem dX6_fail_36 : decode cX6_fail 36 = .ok (.putfield 9, 3) := by decide +kernel
theorem dX6_fail_39 : decode cX6_fail 39 = .ok (.aload_n 0, 1) := by decide +kernel
theorem dX6_fail_40 : decode cX6_fail 40 = .ok (.sipush 203, 3) := by decide +kernel
theorem dX6_fail_43 : decode cX6_fail 43 = .ok (.putfield 51, 3) := by decide +kernel
theorem dX6_fail_46 : decode cX6_fail 46 = .ok (.return_, 1) := by decide +kernel
theorem dX6_take_0 : decode cX6_take 0 = .ok (.aload_n 0, 1) := by decide +kernel
theorem dX6_take_1 : decode cX6_take 1 = .ok (.getfield 51, 3) := by decide +kernel
theorem dX6_take_4 : decode cX6_take 4 = .ok (.iload_n 1, 1) := by decide +kernel
theorem dX6_take_5 : decode cX6_take 5 = .ok (.if_icmp .ne 10, 3) := by decide +kernel
theorem dX6_take_8 : decode cX6_take 8 = .ok (.aload_n 0, 1) := by decide +kernel
theorem dX6_take_9 : decode cX6_take 9 = .ok (.invokevirtual 104, 3) := by decide +kernel
theorem dX6_take_12 : decode cX6_take 12 = .ok (.goto 8, 3) := by decide +kernel
theorem dX6_take_15 : decode cX6_take 15 = .ok (.aload_n 0, 1) := by decide +kernel
theorem dX6_take_16 : decode cX6_take 16 = .ok (.iconst 2, 1) := by decide +kernel
theorem dX6_take_17 : decode cX6_take 17 = .ok (.invokevirtual 107, 3) := by decide +kernel
theorem dX6_take_20 : decode cX6_take 20 = .ok (.return_, 1) := by decide +kernel
theorem dX6_takeNumber_0 : decode cX6_takeNumber 0 = .ok (.aload_n 0, 1) := by decide +kernel
theorem dX6_takeNumber_1 : decode cX6_takeNumber 1 = .ok (.getfield 51, 3) := by decide +kernel
theorem dX6_takeNumber_4 : decode cX6_takeNumber 4 = .ok (.sipush 1000, 3) := by decide +kernel
theorem dX6_takeNumber_7 : decode cX6_takeNumber 7 = .ok (.isub, 1) := by decide +kernel
theorem dX6_takeNumber_8 : decode cX6_takeNumber 8 = .ok (.istore_n 2, 1) := by decide +kernel
theorem dX6_takeNumber_9 : decode cX6_takeNumber 9 = .ok (.iload_n 2, 1) := by decide +kernel
theorem dX6_takeNumber_10 : decode cX6_takeNumber 10 = .ok (.ifCond .ge 10, 3) := by decide +kernel
theorem dX6_takeNumber_13 : decode cX6_takeNumber 13 = .ok (.aload_n 0, 1) := by decide +kernel
theorem dX6_takeNumber_14 : decode cX6_takeNumber 14 = .ok (.iconst 2, 1) := by decide +kernel
theorem dX6_takeNumber_15 : decode cX6_takeNumber 15 = .ok (.invokevirtual 107, 3) := by decide +kernel
theorem dX6_takeNumber_18 : decode cX6_takeNumber 18 = .ok (.iconst 0, 1) := by decide +kernel
theorem dX6_takeNumber_19 : decode cX6_takeNumber 19 = .ok (.ireturn, 1) := by decide +kernel
theorem dX6_takeNumber_20 : decode cX6_takeNumber 20 = .ok (.iload_n 2, 1) := by decide +kernel
theorem dX6_takeNumber_21 : decode cX6_takeNumber 21 = .ok (.iload_n 1, 1) := by decide +kernel
theorem dX6_takeNumber_22 : decode cX6_takeNumber 22 = .ok (.if_icmp .le 10, 3) := by decide +kernel
theorem dX6_takeNumber_25 : decode cX6_takeNumber 25 = .ok (.aload_n 0, 1) := by decide +kernel
theorem dX6_takeNumber_26 : decode cX6_takeNumber 26 = .ok (.iconst 3, 1) := by decide +kernel
theorem dX6_takeNumber_27 : decode cX6_takeNumber 27 = .ok (.invokevirtual 107, 3) := by decide +kernel
theorem dX6_takeNumber_30 : decode cX6_takeNumber 30 = .ok (.iconst 0, 1) := by decide +kernel
theorem dX6_takeNumber_31 : decode cX6_takeNumber 31 = .ok (.ireturn, 1) := by decide +kernel
theorem dX6_takeNumber_32 : decode cX6_takeNumber 32 = .ok (.aload_n 0, 1) := by decide +kernel
theorem dX6_takeNumber_33 : decode cX6_takeNumber 33 = .ok (.invokevirtual 104, 3) := by decide +kernel
theorem dX6_takeNumber_36 : decode cX6_takeNumber 36 = .ok (.iload_n 2, 1) := by decide +kernel
theorem dX6_takeNumber_37 : decode cX6_takeNumber 37 = .ok (.ireturn, 1) := by decide +kernel
theorem dX6_goesWithin_0 : decode cX6_goesWithin 0 = .ok (.iload_n 1, 1) := by decide +kernel
theorem dX6_goesWithin_1 : decode cX6_goesWithin 1 = .ok (.bipush 6, 2) := by decide +kernel
theorem dX6_goesWithin_3 : decode cX6_goesWithin 3 = .ok (.if_icmp .lt 10, 3) := by decide +kernel
theorem dX6_goesWithin_6 : decode cX6_goesWithin 6 = .ok (.aload_n 0, 1) := by decide +kernel
theorem dX6_goesWithin_7 : decode cX6_goesWithin 7 = .ok (.iconst 4, 1) := by decide +kernel
theorem dX6_goesWithin_8 : decode cX6_goesWithin 8 = .ok (.invokevirtual 107, 3) := by decide +kernel
theorem dX6_goesWithin_11 : decode cX6_goesWithin 11 = .ok (.iconst 0, 1) := by decide +kernel
theorem dX6_goesWithin_12 : decode cX6_goesWithin 12 = .ok (.ireturn, 1) := by decide +kernel
theorem dX6_goesWithin_13 : decode cX6_goesWithin 13 = .ok (.aload_n 0, 1) := by decide +kernel
theorem dX6_goesWithin_14 : decode cX6_goesWithin 14 = .ok (.invokevirtual 104, 3) := by decide +kernel
theorem dX6_goesWithin_17 : decode cX6_goesWithin 17 = .ok (.iconst 1, 1) := by decide +kernel
theorem dX6_goesWithin_18 : decode cX6_goesWithin 18 = .ok (.ireturn, 1) := by decide +kernel
theorem dX6_askedBy_0 : decode cX6_askedBy 0 = .ok (.iload_n 1, 1) := by decide +kernel
theorem dX6_askedBy_1 : decode cX6_askedBy 1 = .ok (.tableswitch 136 129 145 #[83, 85, 136, 106, 121, 136, 136, 136, 136, 136, 136, 136, 136, 136, 136, 88, 91], 83) := by decide +kernel
theorem dX6_askedBy_84 : decode cX6_askedBy 84 = .ok (.iconst (-1), 1) := by decide +kernel
theorem dX6_askedBy_85 : decode cX6_askedBy 85 = .ok (.ireturn, 1) := by decide +kernel
theorem dX6_askedBy_86 : decode cX6_askedBy 86 = .ok (.bipush (-2), 2) := by decide +kernel
theorem dX6_askedBy_88 : decode cX6_askedBy 88 = .ok (.ireturn, 1) := by decide +kernel
theorem dX6_askedBy_89 : decode cX6_askedBy 89 = .ok (.bipush (-3), 2) := by decide +kernel
theorem dX6_askedBy_91 : decode cX6_askedBy 91 = .ok (.ireturn, 1) := by decide +kernel
theorem dX6_askedBy_92 : decode cX6_askedBy 92 = .ok (.aload_n 0, 1) := by decide +kernel
theorem dX6_askedBy_93 : decode cX6_askedBy 93 = .ok (.getfield 171, 3) := by decide +kernel
theorem dX6_askedBy_96 : decode cX6_askedBy 96 = .ok (.ifCond .eq 8, 3) := by decide +kernel
theorem dX6_askedBy_99 : decode cX6_askedBy 99 = .ok (.bipush (-4), 2) := by decide +kernel
theorem dX6_askedBy_101 : decode cX6_askedBy 101 = .ok (.goto 5, 3) := by decide +kernel
theorem dX6_askedBy_104 : decode cX6_askedBy 104 = .ok (.bipush (-16), 2) := by decide +kernel
theorem dX6_askedBy_106 : decode cX6_askedBy 106 = .ok (.ireturn, 1) := by decide +kernel
theorem dX6_askedBy_107 : decode cX6_askedBy 107 = .ok (.aload_n 0, 1) := by decide +kernel
theorem dX6_askedBy_108 : decode cX6_askedBy 108 = .ok (.getfield 171, 3) := by decide +kernel
theorem dX6_askedBy_111 : decode cX6_askedBy 111 = .ok (.ifCond .eq 8, 3) := by decide +kernel
theorem dX6_askedBy_114 : decode cX6_askedBy 114 = .ok (.bipush (-5), 2) := by decide +kernel
theorem dX6_askedBy_116 : decode cX6_askedBy 116 = .ok (.goto 5, 3) := by decide +kernel
theorem dX6_askedBy_119 : decode cX6_askedBy 119 = .ok (.bipush (-16), 2) := by decide +kernel
theorem dX6_askedBy_121 : decode cX6_askedBy 121 = .ok (.ireturn, 1) := by decide +kernel
theorem dX6_askedBy_122 : decode cX6_askedBy 122 = .ok (.aload_n 0, 1) := by decide +kernel
theorem dX6_askedBy_123 : decode cX6_askedBy 123 = .ok (.getfield 171, 3) := by decide +kernel
theorem dX6_askedBy_126 : decode cX6_askedBy 126 = .ok (.ifCond .eq 8, 3) := by decide +kernel
theorem dX6_askedBy_129 : decode cX6_askedBy 129 = .ok (.bipush (-6), 2) := by decide +kernel
theorem dX6_askedBy_131 : decode cX6_askedBy 131 = .ok (.goto 5, 3) := by decide +kernel
theorem dX6_askedBy_134 : decode cX6_askedBy 134 = .ok (.bipush (-16), 2) := by decide +kernel
theorem dX6_askedBy_136 : decode cX6_askedBy 136 = .ok (.ireturn, 1) := by decide +kernel
theorem dX6_askedBy_137 : decode cX6_askedBy 137 = .ok (.bipush (-16), 2) := by decide +kernel
theorem dX6_askedBy_139 : decode cX6_askedBy 139 = .ok (.ireturn, 1) := by decide +kernel
/-- how far it was read; the fault; its place; the codes of the laws -/
abbrev PS : Type := Int × Int × Int × List Int
def tkP (K : Int → Int) (σ : PS) : Int := if σ.2.1 = 0 then K σ.1 else 203
def stepP (T : Int) (σ : PS) : PS := if σ.2.1 = 0 ∧ σ.1 + 1 < T then (σ.1 + 1, σ.2) else σ
def failP (K Pl : Int → Int) (k : Int) (σ : PS) : PS := if σ.2.1 = 0 then (σ.1, (if K σ.1 = 202 then 1 else k), Pl σ.1, σ.2.2.2) else σ
def codeP (c : Int) (σ : PS) : PS := if σ.2.1 = 0 then (σ.1, σ.2.1, σ.2.2.1, σ.2.2.2 ++ [c]) else σ
def takeP (T : Int) (K Pl : Int → Int) (x : Int) (σ : PS) : PS := if tkP K σ = x then stepP T σ else failP K Pl 2 σ
def numP (T : Int) (K Pl : Int → Int) (most : Int) (σ : PS) : Int × PS := if tkP K σ < 1000 then (0, failP K Pl 2 σ) else if most < tkP K σ - 1000 then (0, failP K Pl 3 σ) else (tkP K σ - 1000, stepP T σ)
def askC (om : Bool) (t : Int) : Int := if t = 129 then -1 else if t = 130 then -2 else if t = 144 then -3 else if t = 145 ∧ om = true then -4 else if t = 132 ∧ om = true then -5 else if t = 133 ∧ om = true then -6 else -16
/-- the tokens as they lie in the class -/
def RS (ct : mbCt) (b T : Int) (K Pl : Int → Int) : Prop := LK ct ∧ (b = 2 ∨ b = 7) ∧ ct 64 9 = b ∧ ct 64 5 = T ∧ (1 ≤ T ∧ T ≤ 901) ∧ (∀ i, 0 ≤ i → i < T → ct 65 i = K i ∧ ct 66 i = Pl i ∧ 0 ≤ K i ∧ K i < 3000 ∧ K i ≠ 203) ∧ (K (T - 1) = 201 ∨ K (T - 1) = 202)
def RD (ct : mbCt) (b T : Int) (K Pl : Int → Int) (σ : PS) : Prop := RS ct b T K Pl ∧ (0 ≤ σ.1 ∧ σ.1 < T ∧ ct 64 6 = σ.1) ∧ ct 64 7 = tkP K σ ∧ (ct 64 0 = σ.2.1 ∧ ct 64 1 = (if σ.2.1 = 0 then -1 else σ.2.2.1)) ∧ ((0 ≤ ct b 6 ∧ ct b 6 ≤ 900) ∧ shR ct b) ∧ (0 ≤ σ.2.1 ∧ σ.2.1 ≤ 4) ∧ (σ.2.1 = 0 → ct b 6 = (σ.2.2.2.length : Nat) ∧ ∀ j : Nat, j < σ.2.2.2.length → ct (b + 4) j = σ.2.2.2.getD j 0)
/-- nothing but the reader's state and the codes has changed -/
def rdF (b : Int) (ct c : mbCt) : Prop := (∀ k, k ≠ 0 → k ≠ 1 → k ≠ 6 → k ≠ 7 → c 64 k = ct 64 k) ∧ (∀ k, k ≠ 6 → c b k = ct b k) ∧ eqBut [64, b, b + 4] ct c
theorem rdF.rf {b : Int} {ct : mbCt} : rdF b ct ct := ⟨fun _ _ _ _ _ => rfl, fun _ _ => rfl, eqBut.rf⟩
theorem rdF.tr {b : Int} {x y z : mbCt} (h : rdF b x y) (h2 : rdF b y z) : rdF b x z := ⟨fun k a b c d => (h2.1 k a b c d).trans (h.1 k a b c d), fun k a => (h2.2.1 k a).trans (h.2.1 k a), h.2.2.tr h2.2.2⟩
theorem RS.fr {ct c : mbCt} {b T : Int} {K Pl : Int → Int} (h : RS ct b T K Pl) (f : rdF b ct c) : RS c b T K Pl := by
  obtain ⟨L, hb, h9, h5, hT, hK, hE⟩ := h
  have hb4 : bk4 b := hb.elim (fun h => Or.inl h) (fun h => Or.inr (Or.inl h))
  have e65 : c 65 = ct 65 := f.2.2 65 (by simp; omega)
  have e66 : c 66 = ct 66 := f.2.2 66 (by simp; omega)
  refine ⟨?_, hb, by rw [f.1 9 (by decide) (by decide) (by decide) (by decide)]; exact h9, by rw [f.1 5 (by decide) (by decide) (by decide) (by decide)]; exact h5, hT, by rw [e65, e66]; exact hK, hE⟩
  intro x k v hv
  by_cases hx : x = 64
  · subst hx
    by_cases h0 : k = 0
    · subst h0; cases hv
    · by_cases h1 : k = 1
      · subst h1; cases hv
      · by_cases h6 : k = 6
        · subst h6; cases hv
        · by_cases h7 : k = 7
          · subst h7; cases hv
          · rw [f.1 k h0 h1 h6 h7]; exact L _ _ _ hv
  · by_cases hxb : x = b
    · subst hxb
      by_cases h6 : k = 6
      · subst h6
        rw [lk_bk hb4 (by decide) (by decide)] at hv
        cases hv
      · rw [f.2.1 k h6]; exact L _ _ _ hv
    · by_cases hx4 : x = b + 4
      · rw [hx4, lk_bkR hb4 (Or.inr (Or.inr (Or.inr rfl))) k] at hv
        cases hv
      · rw [f.2.2 x (by simp; omega)]
        exact L _ _ _ hv
theorem RD.L {ct : mbCt} {b T : Int} {K Pl : Int → Int} {σ : PS} (h : RD ct b T K Pl σ) : LK ct := h.1.1
/-- only the reader's own numbers have changed -/
theorem RD.own {ct c : mbCt} {b T : Int} {K Pl : Int → Int} {σ σ2 : PS} (h : RD ct b T K Pl σ) (e : eqBut [64] ct c) (hk : ∀ k, k ≠ 0 → k ≠ 1 → k ≠ 6 → k ≠ 7 → c 64 k = ct 64 k) (h1 : 0 ≤ σ2.1 ∧ σ2.1 < T ∧ c 64 6 = σ2.1) (h2 : c 64 7 = tkP K σ2) (h3 : c 64 0 = σ2.2.1 ∧ c 64 1 = (if σ2.2.1 = 0 then -1 else σ2.2.2.1)) (h4 : 0 ≤ σ2.2.1 ∧ σ2.2.1 ≤ 4) (h5 : σ2.2.1 = 0 → σ.2.1 = 0 ∧ σ2.2.2.2 = σ.2.2.2) : RD c b T K Pl σ2 ∧ rdF b ct c := by
  have hb := h.1.2.1
  have eb : c b = ct b := e b (by simp; omega)
  have eb4 : c (b + 4) = ct (b + 4) := e (b + 4) (by simp; omega)
  have f : rdF b ct c := ⟨hk, fun k _ => by rw [eb], e.mono (by simp)⟩
  obtain ⟨g1, g2, g3, g4, ⟨g5, g5'⟩, g6, g7⟩ := h
  refine ⟨⟨g1.fr f, h1, h2, h3, ⟨by rw [eb]; exact g5, by unfold shR; rw [eb4]; exact g5'⟩, h4, fun hz => ?_⟩, f⟩
  obtain ⟨a, b'⟩ := h5 hz
  rw [eb, eb4, b']
  exact g7 a
section
variable (d : Nat) (sh : mbSh) (ct : mbCt) {b T : Int} {K Pl : Int → Int} {σ : PS}
theorem r_step (S : SH sh) (D : RD ct b T K Pl σ) : Mt YX6_step d [.inr (.inr 64)] sh sh ct (pN fun c => RD c b T K Pl (stepP T σ) ∧ rdF b ct c) := by
  have L := D.L
  have D' := D
  obtain ⟨⟨-, hb, h9, h5, hT, hK, hE⟩, ⟨i0, i1, h6⟩, h7, ⟨hw0, hw1⟩, hc, hwb, hcs⟩ := D'
  have s65 : shA sh 65 = some (20, 901) := S.at _ rfl
  obtain ⟨i, w, wp, cs⟩ := σ
  dsimp only at i0 i1 h6 hw0 hw1 hwb hcs
  generalize hP : (pN fun c => RD c b T K Pl (stepP T (i, w, wp, cs)) ∧ rdF b ct c) = Po
  have stay : stepP T (i, w, wp, cs) = (i, w, wp, cs) → G (mkK YX6_step d sh sh Po) 46 [some (.inr (.inr 64))] [] sh ct := by
    intro h
    refine g_return dX6_step_46 rfl ?_
    rw [← hP, h]
    exact ⟨rfl, D, rdF.rf⟩
  refine Mt.of rfl (Nat.le_of_ble_eq_true rfl) ?_
  show G _ 0 [some (.inr (.inr 64))] [] sh ct
  refine g_aload_n (q := 1) dX6_step_0 rfl rfl ?_
  refine g_getI (q := 4) (kI := 7) fX6_51 (by first | assumption | exact S.at _ rfl) dX6_step_1 rfl rfl ?_
  rw [h7]
  by_cases hw : w = 0
  · have htk : tkP K (i, w, wp, cs) = K i := by unfold tkP; exact if_pos hw
    have hKi := (hK i i0 i1).2.2
    rw [htk]
    refine g_sipush (q := 7) dX6_step_4 (by decide +kernel) rfl ?_
    refine g_icmp_eq (q := 10) (tg := 46) dX6_step_7 (by decide) rfl (fun c_7 => ?_) (fun c_7 => ?_)
    · exact absurd c_7 (by rw [w32_id (x := K i) (by omega) (by omega), show w32 203 = 203 from rfl]; omega)
    · refine g_aload_n (q := 11) dX6_step_10 rfl rfl ?_
      refine g_getI (q := 14) (kI := 6) fX6_48 (by first | assumption | exact S.at _ rfl) dX6_step_11 rfl rfl ?_
      rw [h6]
      refine g_iconst (q := 15) dX6_step_14 rfl ?_
      refine g_iadd (q := 16) dX6_step_15 rfl ?_
      refine g_aload_n (q := 17) dX6_step_16 rfl rfl ?_
      refine g_getI (q := 20) (kI := 5) fX6_57 (by first | assumption | exact S.at _ rfl) dX6_step_17 rfl rfl ?_
      rw [h5]
      refine g_icmp_ge (q := 23) (tg := 46) dX6_step_20 (by decide) rfl (fun c_20 => ?_) (fun c_20 => ?_)
      · refine stay ?_
        unfold stepP
        rw [if_neg]
        rw [w32_id (x := i + 1) (by omega) (by omega), w32_id (x := T) (by omega) (by omega)] at c_20
        intro z
        have := z.2
        dsimp only at this
        omega
      · rw [w32_id (x := i + 1) (by omega) (by omega), w32_id (x := T) (by omega) (by omega)] at c_20
        have hst : stepP T (i, w, wp, cs) = (i + 1, w, wp, cs) := by
          unfold stepP
          rw [if_pos ⟨hw, c_20⟩]
        have hK1 := (hK (i + 1) (by omega) c_20).1
        refine g_aload_n (q := 24) dX6_step_23 rfl rfl ?_
        refine g_dup (q := 25) dX6_step_24 rfl rfl ?_
        refine g_getI (q := 28) (kI := 6) fX6_48 (by first | assumption | exact S.at _ rfl) dX6_step_25 rfl rfl ?_
        rw [h6]
        have q3 : wr ct 64 6 (i + 1) 64 3 = 65 := by rw [wr_nk (by decide)]; exact L.at _ _ rfl
        refine g_iconst (q := 29) dX6_step_28 rfl ?_
        refine g_iadd (q := 30) dX6_step_29 rfl ?_
        refine g_putI (q := 33) (kI := 6) fX6_48 (by first | assumption | exact S.at _ rfl) dX6_step_30 rfl rfl ?_
        refine g_aload_n (q := 34) dX6_step_33 rfl rfl ?_
        refine g_aload_n (q := 35) dX6_step_34 rfl rfl ?_
        refine g_getA (q := 38) (kI := 3) fX6_15 (by first | assumption | exact S.at _ rfl) dX6_step_35 rfl rfl (by first | assumption | exact L.at _ _ rfl | exact LK.at (by assumption) _ _ rfl | ((repeat first | rewrite [wr_na (by decide)] | rewrite [wr_nk (by decide)] | rewrite [wa_na (by decide)]); first | assumption | exact LK.at (by assumption) _ _ rfl) | exact rfl) ?_
        refine g_aload_n (q := 39) dX6_step_38 rfl rfl ?_
        refine g_getI (q := 42) (kI := 6) fX6_48 (by first | assumption | exact S.at _ rfl) dX6_step_39 rfl rfl ?_
        rw [wr_eq]
        refine g_iaload (q := 43) (by first | assumption | exact S.at _ rfl) (by omega) (by omega) (by omega) dX6_step_42 rfl ?_
        rw [wr_na (by decide), hK1]
        refine g_putI (q := 46) (kI := 7) fX6_51 (by first | assumption | exact S.at _ rfl) dX6_step_43 rfl rfl ?_
        refine g_return dX6_step_46 rfl ?_
        rw [← hP, hst]
        refine ⟨rfl, RD.own D ((eqBut.rf.wr (by decide)).wr (by decide)) (fun k _ _ k6 k7 => by rw [wr_nk k7, wr_nk k6]) ⟨by show 0 ≤ i + 1; omega, c_20, by rw [wr_nk (by decide), wr_eq]⟩ ?_ ⟨by rw [wr_nk (by decide), wr_nk (by decide)]; exact hw0, by rw [wr_nk (by decide), wr_nk (by decide)]; exact hw1⟩ hwb (fun _ => ⟨hw, rfl⟩)⟩
        rw [wr_eq]
        unfold tkP
        exact (if_pos hw).symm
  · have htk : tkP K (i, w, wp, cs) = 203 := by unfold tkP; exact if_neg hw
    rw [htk]
    refine g_sipush (q := 7) dX6_step_4 (by decide +kernel) rfl ?_
    refine g_icmp_eq (q := 10) (tg := 46) dX6_step_7 (by decide) rfl (fun c_7 => ?_) (fun c_7 => ?_)
    · refine stay ?_
      unfold stepP
      rw [if_neg (fun z => hw z.1)]
    · exact absurd rfl c_7
theorem r_fail {k : Int} (S : SH sh) (D : RD ct b T K Pl σ) (hk : 1 ≤ k ∧ k ≤ 4) : Mt YX6_fail d [.inr (.inr 64), .inl k] sh sh ct (pN fun c => RD c b T K Pl (failP K Pl k σ) ∧ rdF b ct c) := by
  have L := D.L
  have D' := D
  obtain ⟨⟨-, hb, h9, h5, hT, hK, hE⟩, ⟨i0, i1, h6⟩, h7, ⟨hw0, hw1⟩, hc, hwb, hcs⟩ := D'
  have s66 : shA sh 66 = some (20, 901) := S.at _ rfl
  obtain ⟨i, w, wp, cs⟩ := σ
  dsimp only at i0 i1 h6 hw0 hw1 hwb hcs
  have hKi := (hK i i0 i1).2.2
  have hPl := (hK i i0 i1).2.1
  refine Mt.of rfl (Nat.le_of_ble_eq_true rfl) ?_
  show G _ 0 [some (.inr (.inr 64)), some (.inl k)] [] sh ct
  refine g_aload_n (q := 1) dX6_fail_0 rfl rfl ?_
  refine g_getI (q := 4) (kI := 0) fX6_30 (by first | assumption | exact S.at _ rfl) dX6_fail_1 rfl rfl ?_
  rw [hw0]
  by_cases hw : w = 0
  · have htk : tkP K (i, w, wp, cs) = K i := by unfold tkP; exact if_pos hw
    have tail : ∀ v, v = (if K i = 202 then 1 else k) → G (mkK YX6_fail d sh sh (pN fun c => RD c b T K Pl (failP K Pl k (i, w, wp, cs)) ∧ rdF b ct c)) 23 [some (.inr (.inr 64)), some (.inl k)] [.inl v, .inr (.inr 64)] sh ct := by
      intro v hv
      have hvb : 1 ≤ v ∧ v ≤ 4 := by rw [hv]; split <;> omega
      have q4 : wr ct 64 0 v 64 4 = 66 := by rw [wr_nk (by decide)]; exact L.at _ _ rfl
      have q6 : wr ct 64 0 v 64 6 = i := by rw [wr_nk (by decide)]; exact h6
      refine g_putI (q := 26) (kI := 0) fX6_30 (by first | assumption | exact S.at _ rfl) dX6_fail_23 rfl rfl ?_
      refine g_aload_n (q := 27) dX6_fail_26 rfl rfl ?_
      refine g_aload_n (q := 28) dX6_fail_27 rfl rfl ?_
      refine g_getA (q := 31) (kI := 4) fX6_19 (by first | assumption | exact S.at _ rfl) dX6_fail_28 rfl rfl (by first | assumption | exact L.at _ _ rfl | exact LK.at (by assumption) _ _ rfl | ((repeat first | rewrite [wr_na (by decide)] | rewrite [wr_nk (by decide)] | rewrite [wa_na (by decide)]); first | assumption | exact LK.at (by assumption) _ _ rfl) | exact rfl) ?_
      refine g_aload_n (q := 32) dX6_fail_31 rfl rfl ?_
      refine g_getI (q := 35) (kI := 6) fX6_48 (by first | assumption | exact S.at _ rfl) dX6_fail_32 rfl rfl ?_
      rw [q6]
      refine g_iaload (q := 36) (by first | assumption | exact S.at _ rfl) (by omega) (by omega) (by omega) dX6_fail_35 rfl ?_
      rw [wr_na (by decide), hPl]
      refine g_putI (q := 39) (kI := 1) fX6_9 (by first | assumption | exact S.at _ rfl) dX6_fail_36 rfl rfl ?_
      refine g_aload_n (q := 40) dX6_fail_39 rfl rfl ?_
      refine g_sipush (q := 43) dX6_fail_40 (by decide +kernel) rfl ?_
      refine g_putI (q := 46) (kI := 7) fX6_51 (by first | assumption | exact S.at _ rfl) dX6_fail_43 rfl rfl ?_
      refine g_return dX6_fail_46 rfl ?_
      have hf : failP K Pl k (i, w, wp, cs) = (i, v, Pl i, cs) := by
        unfold failP
        rw [if_pos hw, hv]
      rw [hf]
      refine ⟨rfl, RD.own D (((eqBut.rf.wr (by decide)).wr (by decide)).wr (by decide)) (fun k k0 k1 _ k7 => by rw [wr_nk k7, wr_nk k1, wr_nk k0]) ⟨i0, i1, by rw [wr_nk (by decide), wr_nk (by decide), wr_nk (by decide)]; exact h6⟩ ?_ ⟨by rw [wr_nk (by decide), wr_nk (by decide), wr_eq], ?_⟩ (by show 0 ≤ v ∧ v ≤ 4; omega) (fun z => ?_)⟩
      · rw [wr_eq]
        unfold tkP
        rw [if_neg (by show ¬ v = 0; omega)]
      · rw [wr_nk (by decide), wr_eq, if_neg (by show ¬ v = 0; omega)]
      · have : v = 0 := z
        omega
    refine g_if_ne (q := 7) (tg := 39) dX6_fail_4 (by decide) rfl (fun c_4 => ?_) (fun c_4 => ?_)
    · exact absurd (show w32 w = 0 by rw [hw]; rfl) c_4
    · refine g_aload_n (q := 8) dX6_fail_7 rfl rfl ?_
      refine g_aload_n (q := 9) dX6_fail_8 rfl rfl ?_
      refine g_getI (q := 12) (kI := 7) fX6_51 (by first | assumption | exact S.at _ rfl) dX6_fail_9 rfl rfl ?_
      rw [h7, htk]
      refine g_sipush (q := 15) dX6_fail_12 (by decide +kernel) rfl ?_
      refine g_icmp_ne (q := 18) (tg := 22) dX6_fail_15 (by decide) rfl (fun c_15 => ?_) (fun c_15 => ?_)
      · rw [w32_id (x := K i) (by omega) (by omega), show w32 202 = 202 from rfl] at c_15
        refine g_iload_n (q := 23) dX6_fail_22 rfl rfl ?_
        exact tail k (by rw [if_neg c_15])
      · rw [w32_id (x := K i) (by omega) (by omega), show w32 202 = 202 from rfl] at c_15
        refine g_iconst (q := 19) dX6_fail_18 rfl ?_
        refine g_goto (q := 23) dX6_fail_19 (by decide) ?_
        exact tail 1 (by rw [if_pos (by omega)])
  · refine g_if_ne (q := 7) (tg := 39) dX6_fail_4 (by decide) rfl (fun c_4 => ?_) (fun c_4 => ?_)
    · refine g_aload_n (q := 40) dX6_fail_39 rfl rfl ?_
      refine g_sipush (q := 43) dX6_fail_40 (by decide +kernel) rfl ?_
      refine g_putI (q := 46) (kI := 7) fX6_51 (by first | assumption | exact S.at _ rfl) dX6_fail_43 rfl rfl ?_
      refine g_return dX6_fail_46 rfl ?_
      have hf : failP K Pl k (i, w, wp, cs) = (i, w, wp, cs) := by
        unfold failP
        rw [if_neg hw]
      rw [hf]
      refine ⟨rfl, RD.own D (eqBut.rf.wr (by decide)) (fun k _ _ _ k7 => by rw [wr_nk k7]) ⟨i0, i1, by rw [wr_nk (by decide)]; exact h6⟩ ?_ ⟨by rw [wr_nk (by decide)]; exact hw0, by rw [wr_nk (by decide)]; exact hw1⟩ hwb (fun z => absurd z hw)⟩
      rw [wr_eq]
      unfold tkP
      rw [if_neg hw]
    · exact absurd c_4 (by rw [w32_id (x := w) (by omega) (by omega)]; exact hw)
theorem r_take {x : Int} (S : SH sh) (D : RD ct b T K Pl σ) (hx : 0 ≤ x ∧ x < 200) : Mt YX6_take (d + 1) [.inr (.inr 64), .inl x] sh sh ct (pN fun c => RD c b T K Pl (takeP T K Pl x σ) ∧ rdF b ct c) := by
  have L := D.L
  have h7 := D.2.2.1
  have htb : 0 ≤ tkP K σ ∧ tkP K σ < 3000 := by
    unfold tkP
    split
    · have := (D.1.2.2.2.2.2.1 σ.1 D.2.1.1 D.2.1.2.1).2.2
      omega
    · omega
  refine Mt.of rfl (Nat.le_of_ble_eq_true rfl) ?_
  show G _ 0 [some (.inr (.inr 64)), some (.inl x)] [] sh ct
  refine g_aload_n (q := 1) dX6_take_0 rfl rfl ?_
  refine g_getI (q := 4) (kI := 7) fX6_51 (by first | assumption | exact S.at _ rfl) dX6_take_1 rfl rfl ?_
  rw [h7]
  refine g_iload_n (q := 5) dX6_take_4 rfl rfl ?_
  refine g_icmp_ne (q := 8) (tg := 15) dX6_take_5 (by decide) rfl (fun c_5 => ?_) (fun c_5 => ?_)
  · rw [w32_id (x := tkP K σ) (by omega) (by omega), w32_id (x := x) (by omega) (by omega)] at c_5
    refine g_aload_n (q := 16) dX6_take_15 rfl rfl ?_
    refine g_iconst (q := 17) dX6_take_16 rfl ?_
    refine g_callV (q := 20) lX6_107 mX6_fail nX6_fail rfl (r_fail d sh _ S D (k := 2) (by decide)) (by first | assumption | exact S.at _ rfl) rfl rfl shLe.rf (rmOk.mk (by omega) (by first | exact shLe.rf | assumption)) (Nat.le_of_ble_eq_true rfl) dX6_take_17 rfl rfl (kN fun c1 hp => ?_)
    refine g_return dX6_take_20 rfl ?_
    unfold takeP
    rw [if_neg c_5]
    exact ⟨rfl, hp⟩
  · rw [w32_id (x := tkP K σ) (by omega) (by omega), w32_id (x := x) (by omega) (by omega)] at c_5
    refine g_aload_n (q := 9) dX6_take_8 rfl rfl ?_
    refine g_callV (q := 12) lX6_104 mX6_step nX6_step rfl (r_step d sh _ S D) (by first | assumption | exact S.at _ rfl) rfl rfl shLe.rf (rmOk.mk (by omega) (by first | exact shLe.rf | assumption)) (Nat.le_of_ble_eq_true rfl) dX6_take_9 rfl rfl (kN fun c1 hp => ?_)
    refine g_goto (q := 20) dX6_take_12 (by decide) ?_
    refine g_return dX6_take_20 rfl ?_
    unfold takeP
    rw [if_pos (by omega)]
    exact ⟨rfl, hp⟩
end
