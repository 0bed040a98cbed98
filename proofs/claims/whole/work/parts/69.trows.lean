/-! the reference counts rows -/
def sm (f : Int → Int) : Nat → Int
  | 0 => 0
  | n + 1 => sm f n + f n
theorem sm_cong {f g : Int → Int} : ∀ {n : Nat}, (∀ i : Int, 0 ≤ i → i < n → f i = g i) → sm f n = sm g n
  | 0, _ => rfl
  | n + 1, h => by
    unfold sm
    rw [sm_cong (n := n) (fun i a b => h i a (by omega)), h n (by omega) (by omega)]
theorem sm_upd {f g : Int → Int} {j : Int} (j0 : 0 ≤ j) (h : ∀ i, i ≠ j → g i = f i) : ∀ {n : Nat}, j < n → sm g n = sm f n + (g j - f j)
  | 0, hj => by omega
  | n + 1, hj => by
    unfold sm
    by_cases e : j = n
    · subst e
      rw [sm_cong (f := g) (g := f) (fun i a b => h i (by omega))]
      omega
    · rw [sm_upd j0 h (n := n) (by omega), h n (by omega)]
      omega
theorem sm_nn {f : Int → Int} : ∀ {n : Nat}, (∀ i : Int, 0 ≤ i → i < n → 0 ≤ f i) → 0 ≤ sm f n
  | 0, _ => Int.le_refl _
  | n + 1, h => by
    unfold sm
    have := sm_nn (f := f) (n := n) (fun i a b => h i a (by omega))
    have := h n (by omega) (by omega)
    omega
theorem sm_le {f : Int → Int} {j : Int} (j0 : 0 ≤ j) : ∀ {n : Nat}, j < n → (∀ i : Int, 0 ≤ i → i < n → 0 ≤ f i) → f j ≤ sm f n
  | 0, hj, _ => by omega
  | n + 1, hj, h => by
    unfold sm
    by_cases e : j = n
    · subst e
      have := sm_nn (f := f) (n := n) (fun i a b => h i a (by omega))
      omega
    · have := sm_le (f := f) j0 (n := n) (by omega) (fun i a b => h i a (by omega))
      have := h n (by omega) (by omega)
      omega
theorem sm_mono {f g : Int → Int} : ∀ {n : Nat}, (∀ i : Int, 0 ≤ i → i < n → f i ≤ g i) → sm f n ≤ sm g n
  | 0, _ => Int.le_refl _
  | n + 1, h => by
    unfold sm
    have := sm_mono (f := f) (g := g) (n := n) (fun i a b => h i a (by omega))
    have := h n (by omega) (by omega)
    omega
theorem sm_scale {f : Int → Int} (a : Int) : ∀ (n : Nat), sm (fun i => a * f i) n = a * sm f n
  | 0 => by simp [sm]
  | n + 1 => by
    unfold sm
    rw [sm_scale a n, Int.mul_add]
theorem sm_z (n : Nat) : sm (fun _ => 0) n = 0 := by
  induction n with
  | zero => rfl
  | succ n ih =>
    unfold sm
    rw [ih]
    rfl
/-- the same sum by the numbers of minutes and by bits -/
theorem sm_mnt {g : Int → Int} (hz : ∀ v, 8 ≤ v % 10 → g v = 0) : ∀ m : Nat, sm g (10 * m) = sm (fun i => g (mnt i.toNat)) (8 * m)
  | 0 => rfl
  | m + 1 => by
    have ih := sm_mnt hz m
    have e1 : sm g (10 * (m + 1)) = sm g (10 * m) + g ((10 * m : Nat) : Int) + g ((10 * m + 1 : Nat) : Int) + g ((10 * m + 2 : Nat) : Int) + g ((10 * m + 3 : Nat) : Int) + g ((10 * m + 4 : Nat) : Int) + g ((10 * m + 5 : Nat) : Int) + g ((10 * m + 6 : Nat) : Int) + g ((10 * m + 7 : Nat) : Int) + g ((10 * m + 8 : Nat) : Int) + g ((10 * m + 9 : Nat) : Int) := rfl
    have e2 : sm (fun i => g (mnt i.toNat)) (8 * (m + 1)) = sm (fun i => g (mnt i.toNat)) (8 * m) + g (mnt (8 * m)) + g (mnt (8 * m + 1)) + g (mnt (8 * m + 2)) + g (mnt (8 * m + 3)) + g (mnt (8 * m + 4)) + g (mnt (8 * m + 5)) + g (mnt (8 * m + 6)) + g (mnt (8 * m + 7)) := rfl
    have h : ∀ j, j < 8 → mnt (8 * m + j) = ((10 * m + j : Nat) : Int) := by
      intro j hj
      unfold mnt
      omega
    rw [e1, e2, ih, hz _ (by omega : 8 ≤ ((10 * m + 8 : Nat) : Int) % 10), hz _ (by omega : 8 ≤ ((10 * m + 9 : Nat) : Int) % 10), h 1 (by decide), h 2 (by decide), h 3 (by decide), h 4 (by decide), h 5 (by decide), h 6 (by decide), h 7 (by decide)]
    have h0 := h 0 (by decide)
    simp only [Nat.add_zero] at h0
    rw [h0, Int.add_zero, Int.add_zero]
theorem lsum_br {Z : Nat} {f : Nat → Int} : ∀ k, lsum f (brL Z k) = sm (fun i => if Z.testBit i.toNat = true then f i.toNat else 0) k
  | 0 => rfl
  | k + 1 => by
    rw [brL_succ, lsum_app, lsum_br k]
    show _ = sm _ k + (if Z.testBit ((k : Int)).toNat = true then f ((k : Int)).toNat else 0)
    rw [show ((k : Int)).toNat = k by omega]
    by_cases h : Z.testBit k = true
    · rw [if_pos h, if_pos h]
      simp [lsum]
    · rw [if_neg h, if_neg h]
      rfl
section
variable {β : Bk} {mk : Int → Int}
/-- a step of a row: all minutes, or the told one -/
def gV1 (β : Bk) (mk : Int → Int) (mi : Int) (F : Int → Int) (x v : Int) : Int := if ldP β mk (-1) (-1) 9 x v ∧ (mi = -1 ∨ v = mi) then F (nxB β x (v / 10) (v % 10)) else 0
def gS1 (β : Bk) (mk : Int → Int) (mi : Int) (F : Int → Int) (x : Int) : Int := sm (gV1 β mk mi F x) 60
theorem alw_ld (hB : bkB β) {mi x : Int} (hm : toldOk β mi) {i : Nat} (hi : i < 48) : (alwN 1 β mk x mi).testBit i = true ↔ ldP β mk (-1) (-1) 9 x (mnt i) ∧ (mi = -1 ∨ mnt i = mi) := by
  have h1 : ldP β mk (-1) (-1) 9 x (mnt i) ↔ (msN β mk x).testBit i = true := by
    rw [ld_al (useN_ok (-1) (-1)) (by decide) hi]
    unfold alB
    have hu : (useN (-1) (-1)).testBit i = true := (useN_ok (-1) (-1) i hi).mpr ⟨by omega, by omega⟩
    have hc : coolB 9 (nxB β x (i / 8 : Nat) (i % 8 : Nat)) = true := rfl
    rw [hc, Nat.testBit_and, hu]
    simp
  rw [h1]
  unfold alwN
  by_cases e : mi = -1
  · rw [if_neg (fun z => z.2 e)]
    simp [e]
  · rw [if_pos ⟨rfl, e⟩, Nat.testBit_and, Nat.testBit_two_pow]
    have hb3 := hB.2.2.2.1
    have hb2 := hB.2.2.1
    have ht : tIdx mi = i ↔ mnt i = mi := by
      rcases hm with h | ⟨a, b, c⟩
      · exact absurd h e
      · unfold tIdx mnt
        omega
    simp [e, ht]
theorem gS1_br (hB : bkB β) {mi x : Int} (hm : toldOk β mi) (F : Int → Int) : gS1 β mk mi F x = lsum (fun i => F (nxB β x (i / 8 : Nat) (i % 8 : Nat))) (brL (alwN 1 β mk x mi) 48) := by
  have hb3 := hB.2.2.2.1
  unfold gS1
  have e1 := sm_mnt (g := gV1 β mk mi F x) (fun v hv => by unfold gV1; rw [if_neg (fun z => by have := z.1.1.2.1; omega)]) 6
  have e1' : sm (gV1 β mk mi F x) 60 = sm (fun i => gV1 β mk mi F x (mnt i.toNat)) 48 := e1
  rw [e1', lsum_br]
  apply sm_cong
  intro i i0 i1
  have hi : i.toNat < 48 := by omega
  obtain ⟨-, -, a3, a4⟩ := mnt_in hi
  unfold gV1
  by_cases h : (alwN 1 β mk x mi).testBit i.toNat = true
  · rw [if_pos h, if_pos ((alw_ld hB hm hi).mp h), a3, a4]
  · rw [if_neg h, if_neg (fun z => h ((alw_ld hB hm hi).mpr z))]
theorem gS1_1 (hB : bkB β) {mi x : Int} (hm : toldOk β mi) : 0 ≤ gS1 β mk mi (fun _ => 1) x ∧ gS1 β mk mi (fun _ => 1) x ≤ 48 := by
  rw [gS1_br hB hm]
  have h : ∀ l : List Nat, lsum (fun _ => 1) l = l.length := by
    intro l
    induction l with
    | nil => rfl
    | cons a l ih =>
      show 1 + lsum _ l = _
      rw [ih]
      simp
      omega
  rw [h]
  have := brL_len (alwN 1 β mk x mi) 48
  omega
end
theorem mul_sm {a : Int → Int} {F : Int → Int} (n : Nat) (h : ∀ i : Int, 0 ≤ i → i < n → 0 ≤ a i ∧ F i ≤ 48) : sm (fun i => a i * F i) n ≤ 48 * sm a n := by
  rw [← sm_scale]
  apply sm_mono
  intro i i0 i1
  have := h i i0 i1
  show a i * F i ≤ 48 * a i
  rw [Int.mul_comm 48]
  exact Int.mul_le_mul_of_nonneg_left this.2 this.1
theorem dX12_goesRows_0 : decode cX12_goesRows 0 = .ok (.iconst 0, 1) := by decide +kernel
theorem dX12_goesRows_1 : decode cX12_goesRows 1 = .ok (.istore_n 2, 1) := by decide +kernel
theorem dX12_goesRows_2 : decode cX12_goesRows 2 = .ok (.iload_n 2, 1) := by decide +kernel
theorem dX12_goesRows_3 : decode cX12_goesRows 3 = .ok (.sipush 700, 3) := by decide +kernel
theorem dX12_goesRows_6 : decode cX12_goesRows 6 = .ok (.if_icmp .ge 16, 3) := by decide +kernel
theorem dX12_goesRows_9 : decode cX12_goesRows 9 = .ok (.aload_n 0, 1) := by decide +kernel
theorem dX12_goesRows_10 : decode cX12_goesRows 10 = .ok (.getfield 57, 3) := by decide +kernel
theorem dX12_goesRows_13 : decode cX12_goesRows 13 = .ok (.iload_n 2, 1) := by decide +kernel
theorem dX12_goesRows_14 : decode cX12_goesRows 14 = .ok (.lconst 0, 1) := by decide +kernel
theorem dX12_goesRows_15 : decode cX12_goesRows 15 = .ok (.lastore, 1) := by decide +kernel
theorem dX12_goesRows_16 : decode cX12_goesRows 16 = .ok (.iinc 2 1, 3) := by decide +kernel
theorem dX12_goesRows_19 : decode cX12_goesRows 19 = .ok (.goto (-17), 3) := by decide +kernel
theorem dX12_goesRows_22 : decode cX12_goesRows 22 = .ok (.iconst 0, 1) := by decide +kernel
theorem dX12_goesRows_23 : decode cX12_goesRows 23 = .ok (.istore_n 2, 1) := by decide +kernel
theorem dX12_goesRows_24 : decode cX12_goesRows 24 = .ok (.iload_n 2, 1) := by decide +kernel
theorem dX12_goesRows_25 : decode cX12_goesRows 25 = .ok (.sipush 700, 3) := by decide +kernel
theorem dX12_goesRows_28 : decode cX12_goesRows 28 = .ok (.if_icmp .ge 84, 3) := by decide +kernel
theorem dX12_goesRows_31 : decode cX12_goesRows 31 = .ok (.iconst 0, 1) := by decide +kernel
theorem dX12_goesRows_32 : decode cX12_goesRows 32 = .ok (.istore_n 3, 1) := by decide +kernel
theorem dX12_goesRows_33 : decode cX12_goesRows 33 = .ok (.iload_n 3, 1) := by decide +kernel
theorem dX12_goesRows_34 : decode cX12_goesRows 34 = .ok (.bipush 60, 2) := by decide +kernel
theorem dX12_goesRows_36 : decode cX12_goesRows 36 = .ok (.if_icmp .ge 70, 3) := by decide +kernel
theorem dX12_goesRows_39 : decode cX12_goesRows 39 = .ok (.aload_n 0, 1) := by decide +kernel
theorem dX12_goesRows_40 : decode cX12_goesRows 40 = .ok (.getfield 53, 3) := by decide +kernel
theorem dX12_goesRows_43 : decode cX12_goesRows 43 = .ok (.iload_n 2, 1) := by decide +kernel
theorem dX12_goesRows_44 : decode cX12_goesRows 44 = .ok (.laload, 1) := by decide +kernel
theorem dX12_goesRows_45 : decode cX12_goesRows 45 = .ok (.lconst 0, 1) := by decide +kernel
theorem dX12_goesRows_46 : decode cX12_goesRows 46 = .ok (.lcmp, 1) := by decide +kernel
theorem dX12_goesRows_47 : decode cX12_goesRows 47 = .ok (.ifCond .le 59, 3) := by decide +kernel
theorem dX12_goesRows_50 : decode cX12_goesRows 50 = .ok (.aload_n 0, 1) := by decide +kernel
theorem dX12_goesRows_51 : decode cX12_goesRows 51 = .ok (.getfield 40, 3) := by decide +kernel
theorem dX12_goesRows_54 : decode cX12_goesRows 54 = .ok (.bipush 100, 2) := by decide +kernel
theorem dX12_goesRows_56 : decode cX12_goesRows 56 = .ok (.iload_n 2, 1) := by decide +kernel
theorem dX12_goesRows_57 : decode cX12_goesRows 57 = .ok (.imul, 1) := by decide +kernel
theorem dX12_goesRows_58 : decode cX12_goesRows 58 = .ok (.iload_n 3, 1) := by decide +kernel
theorem dX12_goesRows_59 : decode cX12_goesRows 59 = .ok (.iadd, 1) := by decide +kernel
theorem dX12_goesRows_60 : decode cX12_goesRows 60 = .ok (.iaload, 1) := by decide +kernel
theorem dX12_goesRows_61 : decode cX12_goesRows 61 = .ok (.iconst (-1), 1) := by decide +kernel
theorem dX12_goesRows_62 : decode cX12_goesRows 62 = .ok (.if_icmp .eq 38, 3) := by decide +kernel
theorem dX12_goesRows_65 : decode cX12_goesRows 65 = .ok (.iload_n 1, 1) := by decide +kernel
theorem dX12_goesRows_66 : decode cX12_goesRows 66 = .ok (.iconst (-1), 1) := by decide +kernel
theorem dX12_goesRows_67 : decode cX12_goesRows 67 = .ok (.if_icmp .eq 8, 3) := by decide +kernel
theorem dX12_goesRows_70 : decode cX12_goesRows 70 = .ok (.iload_n 3, 1) := by decide +kernel
theorem dX12_goesRows_71 : decode cX12_goesRows 71 = .ok (.iload_n 1, 1) := by decide +kernel
theorem dX12_goesRows_72 : decode cX12_goesRows 72 = .ok (.if_icmp .ne 28, 3) := by decide +kernel
theorem dX12_goesRows_75 : decode cX12_goesRows 75 = .ok (.aload_n 0, 1) := by decide +kernel
theorem dX12_goesRows_76 : decode cX12_goesRows 76 = .ok (.getfield 57, 3) := by decide +kernel
theorem dX12_goesRows_79 : decode cX12_goesRows 79 = .ok (.aload_n 0, 1) := by decide +kernel
theorem dX12_goesRows_80 : decode cX12_goesRows 80 = .ok (.getfield 40, 3) := by decide +kernel
theorem dX12_goesRows_83 : decode cX12_goesRows 83 = .ok (.bipush 100, 2) := by decide +kernel
theorem dX12_goesRows_85 : decode cX12_goesRows 85 = .ok (.iload_n 2, 1) := by decide +kernel
theorem dX12_goesRows_86 : decode cX12_goesRows 86 = .ok (.imul, 1) := by decide +kernel
theorem dX12_goesRows_87 : decode cX12_goesRows 87 = .ok (.iload_n 3, 1) := by decide +kernel
theorem dX12_goesRows_88 : decode cX12_goesRows 88 = .ok (.iadd, 1) := by decide +kernel
theorem dX12_goesRows_89 : decode cX12_goesRows 89 = .ok (.iaload, 1) := by decide +kernel
theorem dX12_goesRows_90 : decode cX12_goesRows 90 = .ok (.dup2, 1) := by decide +kernel
theorem dX12_goesRows_91 : decode cX12_goesRows 91 = .ok (.laload, 1) := by decide +kernel
theorem dX12_goesRows_92 : decode cX12_goesRows 92 = .ok (.aload_n 0, 1) := by decide +kernel
theorem dX12_goesRows_93 : decode cX12_goesRows 93 = .ok (.getfield 53, 3) := by decide +kernel
theorem dX12_goesRows_96 : decode cX12_goesRows 96 = .ok (.iload_n 2, 1) := by decide +kernel
theorem dX12_goesRows_97 : decode cX12_goesRows 97 = .ok (.laload, 1) := by decide +kernel
theorem dX12_goesRows_98 : decode cX12_goesRows 98 = .ok (.ladd, 1) := by decide +kernel
theorem dX12_goesRows_99 : decode cX12_goesRows 99 = .ok (.lastore, 1) := by decide +kernel
theorem dX12_goesRows_100 : decode cX12_goesRows 100 = .ok (.iinc 3 1, 3) := by decide +kernel
theorem dX12_goesRows_103 : decode cX12_goesRows 103 = .ok (.goto (-70), 3) := by decide +kernel
theorem dX12_goesRows_106 : decode cX12_goesRows 106 = .ok (.iinc 2 1, 3) := by decide +kernel
theorem dX12_goesRows_109 : decode cX12_goesRows 109 = .ok (.goto (-85), 3) := by decide +kernel
theorem dX12_goesRows_112 : decode cX12_goesRows 112 = .ok (.iconst 0, 1) := by decide +kernel
theorem dX12_goesRows_113 : decode cX12_goesRows 113 = .ok (.istore_n 2, 1) := by decide +kernel
theorem dX12_goesRows_114 : decode cX12_goesRows 114 = .ok (.iload_n 2, 1) := by decide +kernel
theorem dX12_goesRows_115 : decode cX12_goesRows 115 = .ok (.sipush 700, 3) := by decide +kernel
theorem dX12_goesRows_118 : decode cX12_goesRows 118 = .ok (.if_icmp .ge 21, 3) := by decide +kernel
theorem dX12_goesRows_121 : decode cX12_goesRows 121 = .ok (.aload_n 0, 1) := by decide +kernel
theorem dX12_goesRows_122 : decode cX12_goesRows 122 = .ok (.getfield 53, 3) := by decide +kernel
theorem dX12_goesRows_125 : decode cX12_goesRows 125 = .ok (.iload_n 2, 1) := by decide +kernel
theorem dX12_goesRows_126 : decode cX12_goesRows 126 = .ok (.aload_n 0, 1) := by decide +kernel
theorem dX12_goesRows_127 : decode cX12_goesRows 127 = .ok (.getfield 57, 3) := by decide +kernel
theorem dX12_goesRows_130 : decode cX12_goesRows 130 = .ok (.iload_n 2, 1) := by decide +kernel
theorem dX12_goesRows_131 : decode cX12_goesRows 131 = .ok (.laload, 1) := by decide +kernel
theorem dX12_goesRows_132 : decode cX12_goesRows 132 = .ok (.lastore, 1) := by decide +kernel
theorem dX12_goesRows_133 : decode cX12_goesRows 133 = .ok (.iinc 2 1, 3) := by decide +kernel
theorem dX12_goesRows_136 : decode cX12_goesRows 136 = .ok (.goto (-22), 3) := by decide +kernel
theorem dX12_goesRows_139 : decode cX12_goesRows 139 = .ok (.return_, 1) := by decide +kernel
theorem dX12_beginsRows_0 : decode cX12_beginsRows 0 = .ok (.aload_n 0, 1) := by decide +kernel
theorem dX12_beginsRows_1 : decode cX12_beginsRows 1 = .ok (.invokevirtual 351, 3) := by decide +kernel
theorem dX12_beginsRows_4 : decode cX12_beginsRows 4 = .ok (.iconst 0, 1) := by decide +kernel
theorem dX12_beginsRows_5 : decode cX12_beginsRows 5 = .ok (.istore_n 1, 1) := by decide +kernel
theorem dX12_beginsRows_6 : decode cX12_beginsRows 6 = .ok (.iload_n 1, 1) := by decide +kernel
theorem dX12_beginsRows_7 : decode cX12_beginsRows 7 = .ok (.sipush 700, 3) := by decide +kernel
theorem dX12_beginsRows_10 : decode cX12_beginsRows 10 = .ok (.if_icmp .ge 28, 3) := by decide +kernel
theorem dX12_beginsRows_13 : decode cX12_beginsRows 13 = .ok (.aload_n 0, 1) := by decide +kernel
theorem dX12_beginsRows_14 : decode cX12_beginsRows 14 = .ok (.getfield 53, 3) := by decide +kernel
theorem dX12_beginsRows_17 : decode cX12_beginsRows 17 = .ok (.iload_n 1, 1) := by decide +kernel
theorem dX12_beginsRows_18 : decode cX12_beginsRows 18 = .ok (.iload_n 1, 1) := by decide +kernel
theorem dX12_beginsRows_19 : decode cX12_beginsRows 19 = .ok (.aload_n 0, 1) := by decide +kernel
theorem dX12_beginsRows_20 : decode cX12_beginsRows 20 = .ok (.invokevirtual 251, 3) := by decide +kernel
theorem dX12_beginsRows_23 : decode cX12_beginsRows 23 = .ok (.if_icmp .ne 7, 3) := by decide +kernel
theorem dX12_beginsRows_26 : decode cX12_beginsRows 26 = .ok (.lconst 1, 1) := by decide +kernel
theorem dX12_beginsRows_27 : decode cX12_beginsRows 27 = .ok (.goto 4, 3) := by decide +kernel
theorem dX12_beginsRows_30 : decode cX12_beginsRows 30 = .ok (.lconst 0, 1) := by decide +kernel
theorem dX12_beginsRows_31 : decode cX12_beginsRows 31 = .ok (.lastore, 1) := by decide +kernel
theorem dX12_beginsRows_32 : decode cX12_beginsRows 32 = .ok (.iinc 1 1, 3) := by decide +kernel
theorem dX12_beginsRows_35 : decode cX12_beginsRows 35 = .ok (.goto (-29), 3) := by decide +kernel
theorem dX12_beginsRows_38 : decode cX12_beginsRows 38 = .ok (.return_, 1) := by decide +kernel
theorem dX12_endsIn_0 : decode cX12_endsIn 0 = .ok (.lconst 0, 1) := by decide +kernel
theorem dX12_endsIn_1 : decode cX12_endsIn 1 = .ok (.lstore_n 2, 1) := by decide +kernel
theorem dX12_endsIn_2 : decode cX12_endsIn 2 = .ok (.iconst 0, 1) := by decide +kernel
theorem dX12_endsIn_3 : decode cX12_endsIn 3 = .ok (.istore 4, 2) := by decide +kernel
theorem dX12_endsIn_5 : decode cX12_endsIn 5 = .ok (.iload 4, 2) := by decide +kernel
theorem dX12_endsIn_7 : decode cX12_endsIn 7 = .ok (.sipush 700, 3) := by decide +kernel
theorem dX12_endsIn_10 : decode cX12_endsIn 10 = .ok (.if_icmp .ge 33, 3) := by decide +kernel
theorem dX12_endsIn_13 : decode cX12_endsIn 13 = .ok (.lload_n 2, 1) := by decide +kernel
theorem dX12_endsIn_14 : decode cX12_endsIn 14 = .ok (.aload_n 0, 1) := by decide +kernel
theorem dX12_endsIn_15 : decode cX12_endsIn 15 = .ok (.iload 4, 2) := by decide +kernel
theorem dX12_endsIn_17 : decode cX12_endsIn 17 = .ok (.iload_n 1, 1) := by decide +kernel
theorem dX12_endsIn_18 : decode cX12_endsIn 18 = .ok (.invokevirtual 335, 3) := by decide +kernel
theorem dX12_endsIn_21 : decode cX12_endsIn 21 = .ok (.ifCond .eq 13, 3) := by decide +kernel
theorem dX12_endsIn_24 : decode cX12_endsIn 24 = .ok (.aload_n 0, 1) := by decide +kernel
theorem dX12_endsIn_25 : decode cX12_endsIn 25 = .ok (.getfield 53, 3) := by decide +kernel
theorem dX12_endsIn_28 : decode cX12_endsIn 28 = .ok (.iload 4, 2) := by decide +kernel
theorem dX12_endsIn_30 : decode cX12_endsIn 30 = .ok (.laload, 1) := by decide +kernel
theorem dX12_endsIn_31 : decode cX12_endsIn 31 = .ok (.goto 4, 3) := by decide +kernel
theorem dX12_endsIn_34 : decode cX12_endsIn 34 = .ok (.lconst 0, 1) := by decide +kernel
theorem dX12_endsIn_35 : decode cX12_endsIn 35 = .ok (.ladd, 1) := by decide +kernel
theorem dX12_endsIn_36 : decode cX12_endsIn 36 = .ok (.lstore_n 2, 1) := by decide +kernel
theorem dX12_endsIn_37 : decode cX12_endsIn 37 = .ok (.iinc 4 1, 3) := by decide +kernel
theorem dX12_endsIn_40 : decode cX12_endsIn 40 = .ok (.goto (-35), 3) := by decide +kernel
theorem dX12_endsIn_43 : decode cX12_endsIn 43 = .ok (.lload_n 2, 1) := by decide +kernel
theorem dX12_endsIn_44 : decode cX12_endsIn 44 = .ok (.lreturn, 1) := by decide +kernel
theorem dX12_rows_0 : decode cX12_rows 0 = .ok (.aload_n 0, 1) := by decide +kernel
theorem dX12_rows_1 : decode cX12_rows 1 = .ok (.iconst 0, 1) := by decide +kernel
theorem dX12_rows_2 : decode cX12_rows 2 = .ok (.putfield 1, 3) := by decide +kernel
theorem dX12_rows_5 : decode cX12_rows 5 = .ok (.iload_n 1, 1) := by decide +kernel
theorem dX12_rows_6 : decode cX12_rows 6 = .ok (.invokestatic 358, 3) := by decide +kernel
theorem dX12_rows_9 : decode cX12_rows 9 = .ok (.ifCond .eq 15, 3) := by decide +kernel
theorem dX12_rows_12 : decode cX12_rows 12 = .ok (.iload_n 2, 1) := by decide +kernel
theorem dX12_rows_13 : decode cX12_rows 13 = .ok (.i2l, 1) := by decide +kernel
theorem dX12_rows_14 : decode cX12_rows 14 = .ok (.lconst 0, 1) := by decide +kernel
theorem dX12_rows_15 : decode cX12_rows 15 = .ok (.ldc2_w 218, 3) := by decide +kernel
theorem dX12_rows_18 : decode cX12_rows 18 = .ok (.invokestatic 150, 3) := by decide +kernel
theorem dX12_rows_21 : decode cX12_rows 21 = .ok (.ifCond .ne 7, 3) := by decide +kernel
theorem dX12_rows_24 : decode cX12_rows 24 = .ok (.ldc2_w 367, 3) := by decide +kernel
theorem dX12_rows_27 : decode cX12_rows 27 = .ok (.lreturn, 1) := by decide +kernel
theorem dX12_rows_28 : decode cX12_rows 28 = .ok (.aload_n 0, 1) := by decide +kernel
theorem dX12_rows_29 : decode cX12_rows 29 = .ok (.invokevirtual 369, 3) := by decide +kernel
theorem dX12_rows_32 : decode cX12_rows 32 = .ok (.iconst 0, 1) := by decide +kernel
theorem dX12_rows_33 : decode cX12_rows 33 = .ok (.istore_n 3, 1) := by decide +kernel
theorem dX12_rows_34 : decode cX12_rows 34 = .ok (.iload_n 3, 1) := by decide +kernel
theorem dX12_rows_35 : decode cX12_rows 35 = .ok (.iload_n 2, 1) := by decide +kernel
theorem dX12_rows_36 : decode cX12_rows 36 = .ok (.if_icmp .ge 14, 3) := by decide +kernel
theorem dX12_rows_39 : decode cX12_rows 39 = .ok (.aload_n 0, 1) := by decide +kernel
theorem dX12_rows_40 : decode cX12_rows 40 = .ok (.iconst (-1), 1) := by decide +kernel
theorem dX12_rows_41 : decode cX12_rows 41 = .ok (.invokevirtual 372, 3) := by decide +kernel
theorem dX12_rows_44 : decode cX12_rows 44 = .ok (.iinc 3 1, 3) := by decide +kernel
theorem dX12_rows_47 : decode cX12_rows 47 = .ok (.goto (-13), 3) := by decide +kernel
theorem dX12_rows_50 : decode cX12_rows 50 = .ok (.aload_n 0, 1) := by decide +kernel
theorem dX12_rows_51 : decode cX12_rows 51 = .ok (.iload_n 1, 1) := by decide +kernel
theorem dX12_rows_52 : decode cX12_rows 52 = .ok (.invokevirtual 375, 3) := by decide +kernel
theorem dX12_rows_55 : decode cX12_rows 55 = .ok (.lreturn, 1) := by decide +kernel
section
variable (d : Nat) (sh : mbSh) (ct : mbCt) {β : Bk} {mk : Int → Int} {st : Int}
def grC (ct : mbCt) (β : Bk) (mk : Int → Int) (mi : Int) (c : mbCt) : Prop := (∀ F : Int → Int, sm (fun y => c 104 y * F y) 700 = sm (fun x => ct 104 x * gS1 β mk mi F x) 700) ∧ (∀ y, 0 ≤ y → y < 700 → 0 ≤ c 104 y) ∧ eqBut [104, 105] ct c
set_option maxRecDepth 4000 in
theorem tw_goesRows {mi : Int} (S : SH sh) (L : LK ct) (D : LD ct β mk (-1) (-1) 9) (hB : bkB β) (hm : -1 ≤ mi ∧ mi < 100) (hr : ∀ y, 0 ≤ y → y < 700 → 0 ≤ ct 104 y ∧ ct 104 y < 9223372036854775808) : Mt YX12_goesRows d [.inr (.inr 92), .inl mi] sh sh ct (pN fun c => grC ct β mk mi c) := by
  have s100 : shA sh 100 = some (20, 70000) := S.at _ rfl
  have s104 : shA sh 104 = some (21, 700) := S.at _ rfl
  have s105 : shA sh 105 = some (21, 700) := S.at _ rfl
  generalize hP : (pN fun c => grC ct β mk mi c) = Po
  refine Mt.of rfl (Nat.le_of_ble_eq_true rfl) ?_
  show G _ 0 [some (.inr (.inr 92)), some (.inl mi), none, none] [] sh ct
  refine g_iconst (q := 1) dX12_goesRows_0 rfl ?_
  refine s_istore_n_4_2 (q := 2) dX12_goesRows_1 rfl rfl rfl ?_
  refine g_for (fun j => [some (.inr (.inr 92)), some (.inl mi), some (.inl j), none]) (fun j c => 0 ≤ j ∧ eqBut [105] ct c ∧ ∀ i, 0 ≤ i → i < j → c 105 i = 0) 700 ?_ ?_ (i := 0) (by omega) ⟨by omega, eqBut.rf, fun i _ _ => by omega⟩ (by simp [lsSub])
  · rintro j c hj ⟨j0, e, i1⟩ kk
    have L1 : LK c := L.eb e rfl
    refine g_iload_n (q := 3) dX12_goesRows_2 rfl rfl ?_
    refine g_sipush (q := 6) dX12_goesRows_3 (by decide +kernel) rfl ?_
    refine g_icmp_ge (q := 9) (tg := 22) dX12_goesRows_6 (by decide) rfl (fun c_6 => ?_) (fun c_6 => ?_)
    · exact absurd c_6 (by unfold w32; omega)
    · refine g_aload_n (q := 10) dX12_goesRows_9 rfl rfl ?_
      refine g_getA (q := 13) (kI := 26) fX12_57 (by first | assumption | exact S.at _ rfl) dX12_goesRows_10 rfl rfl (by first | assumption | exact L.at _ _ rfl | exact LK.at (by assumption) _ _ rfl | ((repeat first | rewrite [wr_na (by decide)] | rewrite [wr_nk (by decide)] | rewrite [wa_na (by decide)]); first | assumption | exact LK.at (by assumption) _ _ rfl) | exact rfl) ?_
      refine g_iload_n (q := 14) dX12_goesRows_13 rfl rfl ?_
      refine g_lconst0 (q := 15) dX12_goesRows_14 rfl ?_
      refine g_lastore (q := 16) (by first | assumption | exact S.at _ rfl) (by omega) (by omega) (by omega) dX12_goesRows_15 rfl ?_
      refine s_iinc_4_2 (q := 19) dX12_goesRows_16 rfl rfl rfl ?_
      refine g_goto (q := 2) dX12_goesRows_19 (by decide) ?_
      refine kk _ _ (by simp [lsSub]) ⟨by omega, e.wr (by decide), fun i a b => ?_⟩
      by_cases hi : i = j
      · subst hi
        exact wr_eq
      · rw [wr_nk hi]
        exact i1 i a (by omega)
  · rintro c ⟨-, e, i1⟩
    refine g_iload_n (q := 3) dX12_goesRows_2 rfl rfl ?_
    refine g_sipush (q := 6) dX12_goesRows_3 (by decide +kernel) rfl ?_
    refine g_icmp_ge (q := 9) (tg := 22) dX12_goesRows_6 (by decide) rfl (fun c_6 => ?_) (fun c_6 => ?_)
    · refine g_iconst (q := 23) dX12_goesRows_22 rfl ?_
      refine s_istore_n_4_2 (q := 24) dX12_goesRows_23 rfl rfl rfl ?_
      refine g_for (fun k => [some (.inr (.inr 92)), some (.inl mi), some (.inl k), none]) (fun k c => 0 ≤ k ∧ eqBut [105] ct c ∧ (∀ y, 0 ≤ y → y < 700 → 0 ≤ c 105 y) ∧ ∀ F : Int → Int, sm (fun y => c 105 y * F y) 700 = sm (fun x => ct 104 x * gS1 β mk mi F x) k.toNat) 700 ?_ ?_ (i := 0) (by omega) ⟨by omega, e, fun y a b => by rw [i1 y a b]; omega, fun F => ?_⟩ (by simp [lsSub])
      · rintro k c hk ⟨k0, e, hn, hF⟩ kk
        have ek : ((k.toNat : Nat) : Int) = k := by omega
        refine g_iload_n (q := 25) dX12_goesRows_24 rfl rfl ?_
        refine g_sipush (q := 28) dX12_goesRows_25 (by decide +kernel) rfl ?_
        refine g_icmp_ge (q := 31) (tg := 112) dX12_goesRows_28 (by decide) rfl (fun c_28 => ?_) (fun c_28 => ?_)
        · exact absurd c_28 (by unfold w32; omega)
        · have done : ∀ c2 : mbCt, ∀ o3, eqBut [105] ct c2 → (∀ y, 0 ≤ y → y < 700 → 0 ≤ c2 105 y) → (∀ F : Int → Int, sm (fun y => c2 105 y * F y) 700 = sm (fun x => ct 104 x * gS1 β mk mi F x) k.toNat + ct 104 k * gS1 β mk mi F k) → G (mkK YX12_goesRows d sh sh Po) 106 [some (.inr (.inr 92)), some (.inl mi), some (.inl k), o3] [] sh c2 := by
            intro c2 o3 e2 hn2 hF2
            refine s_iinc_4_2 (q := 109) dX12_goesRows_106 rfl rfl rfl ?_
            refine g_goto (q := 24) dX12_goesRows_109 (by decide) ?_
            refine kk _ _ (by simp [lsSub]) ⟨by omega, e2, hn2, fun F => ?_⟩
            rw [hF2 F, show (k + 1).toNat = k.toNat + 1 by omega]
            show _ = sm _ k.toNat + ct 104 ((k.toNat : Nat) : Int) * gS1 β mk mi F ((k.toNat : Nat) : Int)
            rw [ek]
          have hrk := hr k k0 hk
          refine g_iconst (q := 32) dX12_goesRows_31 rfl ?_
          refine s_istore_n_4_3 (q := 33) dX12_goesRows_32 rfl rfl rfl ?_
          refine g_for (fun v => [some (.inr (.inr 92)), some (.inl mi), some (.inl k), some (.inl v)]) (fun v c => 0 ≤ v ∧ eqBut [105] ct c ∧ (∀ y, 0 ≤ y → y < 700 → 0 ≤ c 105 y) ∧ ∀ F : Int → Int, sm (fun y => c 105 y * F y) 700 = sm (fun x => ct 104 x * gS1 β mk mi F x) k.toNat + ct 104 k * sm (gV1 β mk mi F k) v.toNat) 60 ?_ ?_ (i := 0) (by omega) ⟨by omega, e, hn, fun F => by rw [hF F]; simp [sm]⟩ (by simp [lsSub])
          · rintro v c hv ⟨v0, e, hn, hF⟩ k2
            have L1 : LK c := L.eb e rfl
            have e104 : c 104 = ct 104 := e 104 (by decide)
            have D1 : LD c β mk (-1) (-1) 9 := D.eq (e 100 (by decide)) (e 103 (by decide))
            have hld := D1.at k0 hk v0 (by omega)
            have hp := ldV_p (β := β) (mk := mk) (qu := -1) (un := -1) (mo := 9) (x := k) v0
            have ev : ((v.toNat : Nat) : Int) = v := by omega
            have step0 : ¬ (ldP β mk (-1) (-1) 9 k v ∧ (mi = -1 ∨ v = mi)) → G (mkK YX12_goesRows d sh sh Po) 100 [some (.inr (.inr 92)), some (.inl mi), some (.inl k), some (.inl v)] [] sh c := by
              intro h
              refine s_iinc_4_3 (q := 103) dX12_goesRows_100 rfl rfl rfl ?_
              refine g_goto (q := 33) dX12_goesRows_103 (by decide) ?_
              refine k2 _ _ (by simp [lsSub]) ⟨by omega, e, hn, fun F => ?_⟩
              rw [hF F, show (v + 1).toNat = v.toNat + 1 by omega]
              show _ = _ + ct 104 k * (sm (gV1 β mk mi F k) v.toNat + gV1 β mk mi F k ((v.toNat : Nat) : Int))
              rw [ev, show gV1 β mk mi F k v = 0 by unfold gV1; rw [if_neg h], Int.add_zero]
            refine g_iload_n (q := 34) dX12_goesRows_33 rfl rfl ?_
            refine g_bipush (q := 36) dX12_goesRows_34 (by decide +kernel) rfl ?_
            refine g_icmp_ge (q := 39) (tg := 106) dX12_goesRows_36 (by decide) rfl (fun c_36 => ?_) (fun c_36 => ?_)
            · exact absurd c_36 (by unfold w32; omega)
            · refine g_aload_n (q := 40) dX12_goesRows_39 rfl rfl ?_
              refine g_getA (q := 43) (kI := 25) fX12_53 (by first | assumption | exact S.at _ rfl) dX12_goesRows_40 rfl rfl (by first | assumption | exact L.at _ _ rfl | exact LK.at (by assumption) _ _ rfl | ((repeat first | rewrite [wr_na (by decide)] | rewrite [wr_nk (by decide)] | rewrite [wa_na (by decide)]); first | assumption | exact LK.at (by assumption) _ _ rfl) | exact rfl) ?_
              refine g_iload_n (q := 44) dX12_goesRows_43 rfl rfl ?_
              refine g_laload (q := 45) (by first | assumption | exact S.at _ rfl) (by omega) (by omega) (by omega) dX12_goesRows_44 rfl ?_
              refine g_lconst0 (q := 46) dX12_goesRows_45 rfl ?_
              refine g_lcmp (q := 47) dX12_goesRows_46 rfl ?_
              refine g_if_le (q := 50) (tg := 106) dX12_goesRows_47 (by decide) rfl (fun c_47 => ?_) (fun c_47 => ?_)
              · have hz : ct 104 k = 0 := by
                  rw [e104] at c_47
                  have : ¬ 0 < ct 104 k := fun z => absurd (cmp_gt.mpr (show w64 0 < w64 (ct 104 k) by rw [w64_id (x := ct 104 k) (by omega) hrk.2]; exact z)) (by omega)
                  omega
                refine done c _ e hn (fun F => ?_)
                rw [hF F, hz, Int.zero_mul, Int.zero_mul]
              · refine g_aload_n (q := 51) dX12_goesRows_50 rfl rfl ?_
                refine g_getA (q := 54) (kI := 21) fX12_40 (by first | assumption | exact S.at _ rfl) dX12_goesRows_51 rfl rfl (by first | assumption | exact L.at _ _ rfl | exact LK.at (by assumption) _ _ rfl | ((repeat first | rewrite [wr_na (by decide)] | rewrite [wr_nk (by decide)] | rewrite [wa_na (by decide)]); first | assumption | exact LK.at (by assumption) _ _ rfl) | exact rfl) ?_
                refine g_bipush (q := 56) dX12_goesRows_54 (by decide +kernel) rfl ?_
                refine g_iload_n (q := 57) dX12_goesRows_56 rfl rfl ?_
                refine g_imul (q := 58) dX12_goesRows_57 rfl ?_
                refine g_iload_n (q := 59) dX12_goesRows_58 rfl rfl ?_
                refine g_iadd (q := 60) dX12_goesRows_59 rfl ?_
                refine g_iaload (q := 61) (by first | assumption | exact S.at _ rfl) (by omega) (by omega) (by omega) dX12_goesRows_60 rfl ?_
                rw [hld]
                by_cases hq : ldP β mk (-1) (-1) 9 k v
                · rw [hp.2 hq]
                  have hb2 := hB.2.2.1
                  have hnx := nxB_in (β := β) (st := k) (m := v / 10) (s := v % 10) (by omega) (by have := hq.1.1; omega)
                  have add : (mi = -1 ∨ v = mi) → G (mkK YX12_goesRows d sh sh Po) 75 [some (.inr (.inr 92)), some (.inl mi), some (.inl k), some (.inl v)] [] sh c := by
                    intro hmi
                    refine g_aload_n (q := 76) dX12_goesRows_75 rfl rfl ?_
                    refine g_getA (q := 79) (kI := 26) fX12_57 (by first | assumption | exact S.at _ rfl) dX12_goesRows_76 rfl rfl (by first | assumption | exact L.at _ _ rfl | exact LK.at (by assumption) _ _ rfl | ((repeat first | rewrite [wr_na (by decide)] | rewrite [wr_nk (by decide)] | rewrite [wa_na (by decide)]); first | assumption | exact LK.at (by assumption) _ _ rfl) | exact rfl) ?_
                    refine g_aload_n (q := 80) dX12_goesRows_79 rfl rfl ?_
                    refine g_getA (q := 83) (kI := 21) fX12_40 (by first | assumption | exact S.at _ rfl) dX12_goesRows_80 rfl rfl (by first | assumption | exact L.at _ _ rfl | exact LK.at (by assumption) _ _ rfl | ((repeat first | rewrite [wr_na (by decide)] | rewrite [wr_nk (by decide)] | rewrite [wa_na (by decide)]); first | assumption | exact LK.at (by assumption) _ _ rfl) | exact rfl) ?_
                    refine g_bipush (q := 85) dX12_goesRows_83 (by decide +kernel) rfl ?_
                    refine g_iload_n (q := 86) dX12_goesRows_85 rfl rfl ?_
                    refine g_imul (q := 87) dX12_goesRows_86 rfl ?_
                    refine g_iload_n (q := 88) dX12_goesRows_87 rfl rfl ?_
                    refine g_iadd (q := 89) dX12_goesRows_88 rfl ?_
                    refine g_iaload (q := 90) (by first | assumption | exact S.at _ rfl) (by omega) (by omega) (by omega) dX12_goesRows_89 rfl ?_
                    rw [hld, hp.2 hq]
                    refine g_dup2 (q := 91) dX12_goesRows_90 rfl rfl rfl ?_
                    refine g_laload (q := 92) (by first | assumption | exact S.at _ rfl) (by omega) (by omega) (by omega) dX12_goesRows_91 rfl ?_
                    refine g_aload_n (q := 93) dX12_goesRows_92 rfl rfl ?_
                    refine g_getA (q := 96) (kI := 25) fX12_53 (by first | assumption | exact S.at _ rfl) dX12_goesRows_93 rfl rfl (by first | assumption | exact L.at _ _ rfl | exact LK.at (by assumption) _ _ rfl | ((repeat first | rewrite [wr_na (by decide)] | rewrite [wr_nk (by decide)] | rewrite [wa_na (by decide)]); first | assumption | exact LK.at (by assumption) _ _ rfl) | exact rfl) ?_
                    refine g_iload_n (q := 97) dX12_goesRows_96 rfl rfl ?_
                    refine g_laload (q := 98) (by first | assumption | exact S.at _ rfl) (by omega) (by omega) (by omega) dX12_goesRows_97 rfl ?_
                    refine g_ladd (q := 99) dX12_goesRows_98 rfl ?_
                    refine g_lastore (q := 100) (by first | assumption | exact S.at _ rfl) (by omega) (by omega) (by omega) dX12_goesRows_99 rfl ?_
                    refine s_iinc_4_3 (q := 103) dX12_goesRows_100 rfl rfl rfl ?_
                    refine g_goto (q := 33) dX12_goesRows_103 (by decide) ?_
                    rw [e104]
                    refine k2 _ _ (by simp [lsSub]) ⟨by omega, e.wr (by decide), fun y a b => ?_, fun F => ?_⟩
                    · by_cases hy : y = nxB β k (v / 10) (v % 10)
                      · subst hy
                        rw [wr_eq]
                        have := hn _ hnx.1 hnx.2
                        omega
                      · rw [wr_nk hy]
                        exact hn y a b
                    · rw [sm_upd (f := fun y => c 105 y * F y) (j := nxB β k (v / 10) (v % 10)) hnx.1 (fun i hi => by show wr c _ _ _ _ _ * _ = _; rw [wr_nk hi]) (n := 700) (by omega), hF F, show (v + 1).toNat = v.toNat + 1 by omega]
                      show _ = _ + ct 104 k * (sm (gV1 β mk mi F k) v.toNat + gV1 β mk mi F k ((v.toNat : Nat) : Int))
                      rw [ev, show gV1 β mk mi F k v = F (nxB β k (v / 10) (v % 10)) by unfold gV1; rw [if_pos ⟨hq, hmi⟩], wr_eq, Int.mul_add, Int.add_mul]
                      omega
                  refine g_iconst (q := 62) dX12_goesRows_61 rfl ?_
                  refine g_icmp_eq (q := 65) (tg := 100) dX12_goesRows_62 (by decide) rfl (fun c_62 => ?_) (fun c_62 => ?_)
                  · exact absurd c_62 (by unfold w32; omega)
                  · refine g_iload_n (q := 66) dX12_goesRows_65 rfl rfl ?_
                    refine g_iconst (q := 67) dX12_goesRows_66 rfl ?_
                    refine g_icmp_eq (q := 70) (tg := 75) dX12_goesRows_67 (by decide) rfl (fun c_67 => ?_) (fun c_67 => ?_)
                    · exact add (Or.inl (by unfold w32 at c_67; omega))
                    · refine g_iload_n (q := 71) dX12_goesRows_70 rfl rfl ?_
                      refine g_iload_n (q := 72) dX12_goesRows_71 rfl rfl ?_
                      refine g_icmp_ne (q := 75) (tg := 100) dX12_goesRows_72 (by decide) rfl (fun c_72 => ?_) (fun c_72 => ?_)
                      · exact step0 (fun z => by
                          rcases z.2 with h | h
                          · exact c_67 (by rw [h])
                          · exact c_72 (by rw [h]))
                      · exact add (Or.inr (by unfold w32 at c_72; omega))
                · rw [hp.1.mpr hq]
                  refine g_iconst (q := 62) dX12_goesRows_61 rfl ?_
                  refine g_icmp_eq (q := 65) (tg := 100) dX12_goesRows_62 (by decide) rfl (fun c_62 => ?_) (fun c_62 => ?_)
                  · exact step0 (fun z => hq z.1)
                  · exact absurd rfl c_62
          · rintro c ⟨-, e, hn, hF⟩
            refine g_iload_n (q := 34) dX12_goesRows_33 rfl rfl ?_
            refine g_bipush (q := 36) dX12_goesRows_34 (by decide +kernel) rfl ?_
            refine g_icmp_ge (q := 39) (tg := 106) dX12_goesRows_36 (by decide) rfl (fun c_36 => ?_) (fun c_36 => ?_)
            · exact done c _ e hn (fun F => hF F)
            · exact absurd c_36 (by decide)
      · rintro c ⟨-, e, hn, hF⟩
        refine g_iload_n (q := 25) dX12_goesRows_24 rfl rfl ?_
        refine g_sipush (q := 28) dX12_goesRows_25 (by decide +kernel) rfl ?_
        refine g_icmp_ge (q := 31) (tg := 112) dX12_goesRows_28 (by decide) rfl (fun c_28 => ?_) (fun c_28 => ?_)
        · refine g_iconst (q := 113) dX12_goesRows_112 rfl ?_
          refine s_istore_n_4_2 (q := 114) dX12_goesRows_113 rfl rfl rfl ?_
          refine g_for (fun j => [some (.inr (.inr 92)), some (.inl mi), some (.inl j), none]) (fun j c2 => 0 ≤ j ∧ eqBut [104] c c2 ∧ ∀ i, 0 ≤ i → i < j → c2 104 i = c 105 i) 700 ?_ ?_ (i := 0) (by omega) ⟨by omega, eqBut.rf, fun i _ _ => by omega⟩ (by simp [lsSub])
          · rintro j c2 hj ⟨j0, e2, i2⟩ kk
            have L1 : LK c2 := (L.eb e rfl).eb e2 rfl
            refine g_iload_n (q := 115) dX12_goesRows_114 rfl rfl ?_
            refine g_sipush (q := 118) dX12_goesRows_115 (by decide +kernel) rfl ?_
            refine g_icmp_ge (q := 121) (tg := 139) dX12_goesRows_118 (by decide) rfl (fun c_118 => ?_) (fun c_118 => ?_)
            · exact absurd c_118 (by unfold w32; omega)
            · refine g_aload_n (q := 122) dX12_goesRows_121 rfl rfl ?_
              refine g_getA (q := 125) (kI := 25) fX12_53 (by first | assumption | exact S.at _ rfl) dX12_goesRows_122 rfl rfl (by first | assumption | exact L.at _ _ rfl | exact LK.at (by assumption) _ _ rfl | ((repeat first | rewrite [wr_na (by decide)] | rewrite [wr_nk (by decide)] | rewrite [wa_na (by decide)]); first | assumption | exact LK.at (by assumption) _ _ rfl) | exact rfl) ?_
              refine g_iload_n (q := 126) dX12_goesRows_125 rfl rfl ?_
              refine g_aload_n (q := 127) dX12_goesRows_126 rfl rfl ?_
              refine g_getA (q := 130) (kI := 26) fX12_57 (by first | assumption | exact S.at _ rfl) dX12_goesRows_127 rfl rfl (by first | assumption | exact L.at _ _ rfl | exact LK.at (by assumption) _ _ rfl | ((repeat first | rewrite [wr_na (by decide)] | rewrite [wr_nk (by decide)] | rewrite [wa_na (by decide)]); first | assumption | exact LK.at (by assumption) _ _ rfl) | exact rfl) ?_
              refine g_iload_n (q := 131) dX12_goesRows_130 rfl rfl ?_
              refine g_laload (q := 132) (by first | assumption | exact S.at _ rfl) (by omega) (by omega) (by omega) dX12_goesRows_131 rfl ?_
              refine g_lastore (q := 133) (by first | assumption | exact S.at _ rfl) (by omega) (by omega) (by omega) dX12_goesRows_132 rfl ?_
              refine s_iinc_4_2 (q := 136) dX12_goesRows_133 rfl rfl rfl ?_
              refine g_goto (q := 114) dX12_goesRows_136 (by decide) ?_
              refine kk _ _ (by simp [lsSub]) ⟨by omega, e2.wr (by decide), fun i a b => ?_⟩
              by_cases hi : i = j
              · subst hi
                rw [wr_eq, e2 105 (by decide)]
              · rw [wr_nk hi]
                exact i2 i a (by omega)
          · rintro c2 ⟨-, e2, i2⟩
            refine g_iload_n (q := 115) dX12_goesRows_114 rfl rfl ?_
            refine g_sipush (q := 118) dX12_goesRows_115 (by decide +kernel) rfl ?_
            refine g_icmp_ge (q := 121) (tg := 139) dX12_goesRows_118 (by decide) rfl (fun c_118 => ?_) (fun c_118 => ?_)
            · refine g_return dX12_goesRows_139 rfl ?_
              rw [← hP]
              refine ⟨rfl, fun F => ?_, fun y a b => by rw [i2 y a b]; exact hn y a b, (e.mono (by decide)).tr (e2.mono (by decide))⟩
              have hF' := hF F
              rw [show Int.toNat 700 = 700 from rfl] at hF'
              rw [← hF']
              apply sm_cong
              intro i a b
              show c2 104 i * F i = c 105 i * F i
              rw [i2 i a (by omega)]
            · exact absurd c_118 (by decide)
        · exact absurd c_28 (by decide)
      · rw [show sm (fun y => c 105 y * F y) 700 = sm (fun _ => 0) 700 from sm_cong (fun i a b => by show c 105 i * F i = 0; rw [i1 i a (by omega), Int.zero_mul]), sm_z]
        rfl
    · exact absurd c_6 (by decide)
theorem tw_beginsRows (S : SH sh) (M : MD ct β mk st) : Mt YX12_beginsRows (d + 6) [.inr (.inr 92)] sh sh ct (pN fun c => LD c β mk (-1) (-1) 9 ∧ (∀ y, 0 ≤ y → y < 700 → c 104 y = if y = st then 1 else 0) ∧ eqBut [97, 98, 100, 103, 104] ct c) := by
  have hrg := M.rg
  have s104 : shA sh 104 = some (21, 700) := S.at _ rfl
  generalize hP : (pN fun c => LD c β mk (-1) (-1) 9 ∧ (∀ y, 0 ≤ y → y < 700 → c 104 y = if y = st then 1 else 0) ∧ eqBut [97, 98, 100, 103, 104] ct c) = Po
  refine Mt.of rfl (Nat.le_of_ble_eq_true rfl) ?_
  show G _ 0 [some (.inr (.inr 92)), none] [] sh ct
  refine g_aload_n (q := 1) dX12_beginsRows_0 rfl rfl ?_
  refine g_callV (q := 4) lX12_351 mX12_laysPlain nX12_laysPlain rfl (tw_laysPlain d sh _ S M) (by first | assumption | exact S.at _ rfl) rfl rfl shLe.rf (rmOk.mk (by omega) (by first | exact shLe.rf | assumption)) (Nat.le_of_ble_eq_true rfl) dX12_beginsRows_1 rfl rfl (kN fun c1 hp => ?_)
  obtain ⟨D, e1⟩ := hp
  have M1 := M.mf (mF.of e1 rfl)
  refine g_iconst (q := 5) dX12_beginsRows_4 rfl ?_
  refine s_istore_n_2_1 (q := 6) dX12_beginsRows_5 rfl rfl rfl ?_
  refine g_for (fun j => [some (.inr (.inr 92)), some (.inl j)]) (fun j c => 0 ≤ j ∧ eqBut [104] c1 c ∧ ∀ i, 0 ≤ i → i < j → c 104 i = if i = st then 1 else 0) 700 ?_ ?_ (i := 0) (by omega) ⟨by omega, eqBut.rf, fun i _ _ => by omega⟩ (by simp [lsSub])
  · rintro j c hj ⟨j0, e, i1⟩ kk
    have L1 : LK c := M1.L.eb e rfl
    have M2 : MD c β mk st := M1.eq L1 (e 93 (by decide))
    have nx : ∀ v, v = (if j = st then 1 else 0) → G (mkK YX12_beginsRows (d + 6) sh sh Po) 31 [some (.inr (.inr 92)), some (.inl j)] [.inr (.inl v), .inl j, .inr (.inr 104)] sh c := by
      intro v hv
      refine g_lastore (q := 32) (by first | assumption | exact S.at _ rfl) (by omega) (by omega) (by omega) dX12_beginsRows_31 rfl ?_
      refine s_iinc_2_1 (q := 35) dX12_beginsRows_32 rfl rfl rfl ?_
      refine g_goto (q := 6) dX12_beginsRows_35 (by decide) ?_
      refine kk _ _ (by simp [lsSub]) ⟨by omega, e.wr (by decide), fun i a b => ?_⟩
      by_cases hi : i = j
      · subst hi
        rw [wr_eq, hv]
      · rw [wr_nk hi]
        exact i1 i a (by omega)
    refine g_iload_n (q := 7) dX12_beginsRows_6 rfl rfl ?_
    refine g_sipush (q := 10) dX12_beginsRows_7 (by decide +kernel) rfl ?_
    refine g_icmp_ge (q := 13) (tg := 38) dX12_beginsRows_10 (by decide) rfl (fun c_10 => ?_) (fun c_10 => ?_)
    · exact absurd c_10 (by unfold w32; omega)
    · refine g_aload_n (q := 14) dX12_beginsRows_13 rfl rfl ?_
      refine g_getA (q := 17) (kI := 25) fX12_53 (by first | assumption | exact S.at _ rfl) dX12_beginsRows_14 rfl rfl (by first | assumption | exact L.at _ _ rfl | exact LK.at (by assumption) _ _ rfl | ((repeat first | rewrite [wr_na (by decide)] | rewrite [wr_nk (by decide)] | rewrite [wa_na (by decide)]); first | assumption | exact LK.at (by assumption) _ _ rfl) | exact rfl) ?_
      refine g_iload_n (q := 18) dX12_beginsRows_17 rfl rfl ?_
      refine g_iload_n (q := 19) dX12_beginsRows_18 rfl rfl ?_
      refine g_aload_n (q := 20) dX12_beginsRows_19 rfl rfl ?_
      refine g_callV (q := 23) lX12_251 mX12_standNow nX12_standNow rfl (tw_standNow (d + 5) sh _ M2 S) (by first | assumption | exact S.at _ rfl) rfl rfl shLe.rf (rmOk.mk (by omega) (by first | exact shLe.rf | assumption)) (Nat.le_of_ble_eq_true rfl) dX12_beginsRows_20 rfl rfl (kI fun r_ c_ hp => ?_)
      obtain ⟨hr, hq⟩ := hp
      replace hr := hr.symm
      replace hq := hq.symm
      subst hr hq
      refine g_icmp_ne (q := 26) (tg := 30) dX12_beginsRows_23 (by decide) rfl (fun c_23 => ?_) (fun c_23 => ?_)
      · refine g_lconst0 (q := 31) dX12_beginsRows_30 rfl ?_
        exact nx 0 (by rw [if_neg (fun z => c_23 (by rw [z]))])
      · refine g_lconst1 (q := 27) dX12_beginsRows_26 rfl ?_
        refine g_goto (q := 31) dX12_beginsRows_27 (by decide) ?_
        exact nx 1 (by rw [if_pos (by unfold w32 at c_23; omega)])
  · rintro c ⟨-, e, i1⟩
    refine g_iload_n (q := 7) dX12_beginsRows_6 rfl rfl ?_
    refine g_sipush (q := 10) dX12_beginsRows_7 (by decide +kernel) rfl ?_
    refine g_icmp_ge (q := 13) (tg := 38) dX12_beginsRows_10 (by decide) rfl (fun c_10 => ?_) (fun c_10 => ?_)
    · refine g_return dX12_beginsRows_38 rfl ?_
      rw [← hP]
      exact ⟨rfl, D.eq (e 100 (by decide)) (e 103 (by decide)), i1, (e1.mono (by decide)).tr (e.mono (by decide))⟩
    · exact absurd c_10 (by decide)
theorem tw_endsIn {tone : Int} (S : SH sh) (L : LK ct) (D : LD ct β mk (-1) (-1) 9) (t0 : -1 ≤ tone) (t1 : tone ≤ 10) : Mt YX12_endsIn (d + 2) [.inr (.inr 92), .inl tone] sh sh ct (pL fun r c => r = sm (fun y => ct 104 y * b01 (enB β y tone = true)) 700 ∧ c = ct) := by
  have s104 : shA sh 104 = some (21, 700) := S.at _ rfl
  generalize hP : (pL fun r c => r = sm (fun y => ct 104 y * b01 (enB β y tone = true)) 700 ∧ c = ct) = Po
  refine Mt.of rfl (Nat.le_of_ble_eq_true rfl) ?_
  show G _ 0 [some (.inr (.inr 92)), some (.inl tone), none, none, none] [] sh ct
  refine g_lconst0 (q := 1) dX12_endsIn_0 rfl ?_
  refine s_lstore_n_5_2 (q := 2) dX12_endsIn_1 rfl rfl rfl ?_
  refine g_iconst (q := 3) dX12_endsIn_2 rfl ?_
  refine s_istore_5_4 (q := 5) dX12_endsIn_3 rfl rfl rfl ?_
  refine g_forA (α := Int) (fun j a => [some (.inr (.inr 92)), some (.inl tone), some (.inr (.inl a)), none, some (.inl j)]) (fun j a c => 0 ≤ j ∧ c = ct ∧ a = sm (fun y => ct 104 y * b01 (enB β y tone = true)) j.toNat) 700 ?_ ?_ (i := 0) (a := 0) (by omega) ⟨by omega, rfl, rfl⟩ (by simp [lsSub])
  · rintro j a c hj ⟨j0, hc, ha⟩ kk
    subst hc
    have ej : ((j.toNat : Nat) : Int) = j := by omega
    have nx : ∀ v, v = c 104 j * b01 (enB β j tone = true) → G (mkK YX12_endsIn (d + 2) sh sh Po) 35 [some (.inr (.inr 92)), some (.inl tone), some (.inr (.inl a)), none, some (.inl j)] [.inr (.inl v), .inr (.inl a)] sh c := by
      intro v hv
      refine g_ladd (q := 36) dX12_endsIn_35 rfl ?_
      refine s_lstore_n_5_2 (q := 37) dX12_endsIn_36 rfl rfl rfl ?_
      refine s_iinc_5_4 (q := 40) dX12_endsIn_37 rfl rfl rfl ?_
      refine g_goto (q := 5) dX12_endsIn_40 (by decide) ?_
      refine kk (a + v) _ _ (by simp [lsSub]) ⟨by omega, rfl, ?_⟩
      rw [show (j + 1).toNat = j.toNat + 1 by omega]
      show _ = sm _ j.toNat + c 104 ((j.toNat : Nat) : Int) * b01 (enB β ((j.toNat : Nat) : Int) tone = true)
      rw [ej, ← ha, hv]
    refine g_iload (q := 7) dX12_endsIn_5 rfl rfl ?_
    refine g_sipush (q := 10) dX12_endsIn_7 (by decide +kernel) rfl ?_
    refine g_icmp_ge (q := 13) (tg := 43) dX12_endsIn_10 (by decide) rfl (fun c_10 => ?_) (fun c_10 => ?_)
    · exact absurd c_10 (by unfold w32; omega)
    · refine g_lload_n (q := 14) dX12_endsIn_13 rfl rfl ?_
      refine g_aload_n (q := 15) dX12_endsIn_14 rfl rfl ?_
      refine g_iload (q := 17) dX12_endsIn_15 rfl rfl ?_
      refine g_iload_n (q := 18) dX12_endsIn_17 rfl rfl ?_
      refine g_callV (q := 21) lX12_335 mX12_isEnd nX12_isEnd rfl (tw_isEnd d sh _ S L D j0 hj t0 t1) (by first | assumption | exact S.at _ rfl) rfl rfl shLe.rf (rmOk.mk (by omega) (by first | exact shLe.rf | assumption)) (Nat.le_of_ble_eq_true rfl) dX12_endsIn_18 rfl rfl (kI fun r_ c_ hp => ?_)
      obtain ⟨hr, hq⟩ := hp
      replace hr := hr.symm
      replace hq := hq.symm
      subst hr hq
      refine g_if_eq (q := 24) (tg := 34) dX12_endsIn_21 (by decide) rfl (fun c_21 => ?_) (fun c_21 => ?_)
      · refine g_lconst0 (q := 35) dX12_endsIn_34 rfl ?_
        exact nx 0 (by rw [← b01_f (wb0.mp c_21), Int.mul_zero])
      · refine g_aload_n (q := 25) dX12_endsIn_24 rfl rfl ?_
        refine g_getA (q := 28) (kI := 25) fX12_53 (by first | assumption | exact S.at _ rfl) dX12_endsIn_25 rfl rfl (by first | assumption | exact L.at _ _ rfl | exact LK.at (by assumption) _ _ rfl | ((repeat first | rewrite [wr_na (by decide)] | rewrite [wr_nk (by decide)] | rewrite [wa_na (by decide)]); first | assumption | exact LK.at (by assumption) _ _ rfl) | exact rfl) ?_
        refine g_iload (q := 30) dX12_endsIn_28 rfl rfl ?_
        refine g_laload (q := 31) (by first | assumption | exact S.at _ rfl) (by omega) (by omega) (by omega) dX12_endsIn_30 rfl ?_
        refine g_goto (q := 35) dX12_endsIn_31 (by decide) ?_
        exact nx _ (by rw [← b01_t (wbn.mp c_21), Int.mul_one])
  · rintro a c ⟨-, hc, ha⟩
    subst hc
    refine g_iload (q := 7) dX12_endsIn_5 rfl rfl ?_
    refine g_sipush (q := 10) dX12_endsIn_7 (by decide +kernel) rfl ?_
    refine g_icmp_ge (q := 13) (tg := 43) dX12_endsIn_10 (by decide) rfl (fun c_10 => ?_) (fun c_10 => ?_)
    · refine g_lload_n (q := 44) dX12_endsIn_43 rfl rfl ?_
      refine g_lreturn dX12_endsIn_44 rfl ?_
      rw [← hP]
      exact ⟨_, rfl, ha, rfl⟩
    · exact absurd c_10 (by decide)
/-- rows so far: i places are done -/
def RwI (c : mbCt) (β : Bk) (mk : Int → Int) (tone : Int) (tl : Int → Int) (n i : Nat) (tot : Int) : Prop := (∀ y, 0 ≤ y → y < 700 → 0 ≤ c 104 y) ∧ sm (fun y => c 104 y * cW β mk tone tl n (n - i) y) 700 = tot ∧ sm (c 104) 700 ≤ 48 ^ i
theorem RwI.start {c : mbCt} {tone : Int} {tl : Int → Int} {n : Nat} (h0 : 0 ≤ st) (h1 : st < 700) (h : ∀ y, 0 ≤ y → y < 700 → c 104 y = if y = st then 1 else 0) : RwI c β mk tone tl n 0 (cW β mk tone tl n n st) := by
  have key : ∀ F : Int → Int, sm (fun y => c 104 y * F y) 700 = F st := by
    intro F
    rw [sm_cong (g := fun y => (if y = st then 1 else 0) * F y) (fun i a b => by show c 104 i * F i = _; rw [h i a (by omega)]), sm_upd (f := fun _ => 0) (j := st) h0 (fun i hi => by show (if i = st then 1 else 0) * F i = 0; rw [if_neg hi, Int.zero_mul]) (by omega), sm_z]
    simp
  refine ⟨fun y a b => ?_, ?_, ?_⟩
  · rw [h y a b]
    split <;> omega
  · exact key _
  · have := key (fun _ => 1)
    simp only [Int.mul_one] at this
    rw [this]
    decide
theorem RwI.step {c c2 : mbCt} {tone mi tot : Int} {tl : Int → Int} {n i : Nat} (hB : bkB β) (hi : i < n) (hm : toldOk β mi) (ht : tl i = mi) (h : RwI c β mk tone tl n i tot) (g : grC c β mk mi c2) : RwI c2 β mk tone tl n (i + 1) tot := by
  refine ⟨g.2.1, ?_, ?_⟩
  · rw [g.1, ← h.2.1]
    apply sm_cong
    intro y a b
    show c 104 y * gS1 β mk mi _ y = c 104 y * cW β mk tone tl n (n - i) y
    rw [gS1_br hB hm]
    obtain ⟨r, hr⟩ : ∃ r, n - i = r + 1 := ⟨n - i - 1, by omega⟩
    rw [show n - (i + 1) = r by omega, hr]
    show _ = c 104 y * lsum _ (brL (alwN 1 β mk y (tl ((n - (r + 1) : Nat) : Int))) 48)
    rw [show n - (r + 1) = i by omega, ht]
  · have h1 : sm (c2 104) 700 = _ := (sm_cong (fun y _ _ => (Int.mul_one _).symm)).trans (g.1 (fun _ => 1))
    have h2 := mul_sm (a := c 104) (F := gS1 β mk mi (fun _ => 1)) 700 (fun y a b => ⟨h.1 y a (by omega), (gS1_1 hB hm).2⟩)
    have h3 := h.2.2
    have e : (48 : Int) ^ (i + 1) = 48 ^ i * 48 := Int.pow_succ 48 i
    rw [e]
    omega
theorem p48 {i : Nat} (h : i ≤ 10) : (48 : Int) ^ i < 9223372036854775808 := by
  rcases (show i = 0 ∨ i = 1 ∨ i = 2 ∨ i = 3 ∨ i = 4 ∨ i = 5 ∨ i = 6 ∨ i = 7 ∨ i = 8 ∨ i = 9 ∨ i = 10 by omega) with rfl | rfl | rfl | rfl | rfl | rfl | rfl | rfl | rfl | rfl | rfl <;> decide
theorem RwI.rg {c : mbCt} {tone tot : Int} {tl : Int → Int} {n i : Nat} (h : RwI c β mk tone tl n i tot) (hi : i ≤ 10) : ∀ y, 0 ≤ y → y < 700 → 0 ≤ c 104 y ∧ c 104 y < 9223372036854775808 := by
  intro y a b
  have h1 := sm_le (f := c 104) a (n := 700) (by omega) (fun i a b => h.1 i a (by omega))
  have h2 := p48 hi
  have h3 := h.2.2
  exact ⟨h.1 y a b, by omega⟩
theorem RwI.fin {c : mbCt} {tone tot : Int} {tl : Int → Int} {n : Nat} (h : RwI c β mk tone tl n n tot) : sm (fun y => c 104 y * b01 (enB β y tone = true)) 700 = tot := by
  rw [← h.2.1, Nat.sub_self]
  rfl
def qRows (β : Bk) (mk : Int → Int) (st tone n r : Int) : Prop := (isTn tone ∧ (0 ≤ n ∧ n ≤ 10) ∧ r = cW β mk tone (fun _ => -1) n.toNat n.toNat st) ∨ (¬ (isTn tone ∧ 0 ≤ n ∧ n ≤ 10) ∧ r = -3)
theorem tw_rows {tone n : Int} (S : SH sh) (M : MD ct β mk st) (ht : i32 tone) (hn : i32 n) : Mt YX12_rows (d + 7) [.inr (.inr 92), .inl tone, .inl n] sh sh ct (pL fun r c => qRows β mk st tone n r ∧ mF ct c) := by
  have L := M.L
  have hB := M.B
  have hrg := M.rg
  unfold i32 at hn
  have hn' : w32 n = n := w32_id hn.1 hn.2
  generalize hP : (pL fun r c => qRows β mk st tone n r ∧ mF ct c) = Po
  refine Mt.of rfl (Nat.le_of_ble_eq_true rfl) ?_
  show G _ 0 [some (.inr (.inr 92)), some (.inl tone), some (.inl n), none] [] sh ct
  refine g_aload_n (q := 1) dX12_rows_0 rfl rfl ?_
  refine g_iconst (q := 2) dX12_rows_1 rfl ?_
  refine g_putI (q := 5) (kI := 0) fX12_1 (by first | assumption | exact S.at _ rfl) dX12_rows_2 rfl rfl ?_
  refine g_iload_n (q := 6) dX12_rows_5 rfl rfl ?_
  refine g_callS (q := 9) lX12_358 mX12_isTone sX12_isTone rfl (tw_isTone (d + 5) sh _ ht) shLe.rf (rmOk.mk (by omega) (by first | exact shLe.rf | assumption)) (Nat.le_of_ble_eq_true rfl) dX12_rows_6 rfl rfl (kI fun r_ c_ hp => ?_)
  obtain ⟨hr, hq⟩ := hp
  replace hr := hr.symm
  replace hq := hq.symm
  subst hr hq
  refine g_if_eq (q := 12) (tg := 24) dX12_rows_9 (by decide) rfl (fun c_9 => ?_) (fun c_9 => ?_)
  · refine g_ldc2 (q := 27) dX12_rows_24 kX12_367 rfl ?_
    refine g_lreturn dX12_rows_27 rfl ?_
    rw [← hP]
    exact ⟨_, rfl, Or.inr ⟨fun z => wb0.mp c_9 z.1, rfl⟩, mF.th⟩
  · have htn := wbn.mp c_9
    refine g_iload_n (q := 13) dX12_rows_12 rfl rfl ?_
    refine g_i2l (q := 14) dX12_rows_13 rfl ?_
    refine g_lconst0 (q := 15) dX12_rows_14 rfl ?_
    refine g_ldc2 (q := 18) dX12_rows_15 kX12_218 rfl ?_
    rw [hn']
    refine g_callS (q := 21) lX12_150 mX12_within sX12_within rfl (tw_within (d + 6) sh _) shLe.rf (rmOk.mk (by omega) (by first | exact shLe.rf | assumption)) (Nat.le_of_ble_eq_true rfl) dX12_rows_18 rfl rfl (kI fun r_ c_ hp => ?_)
    obtain ⟨hr, hq⟩ := hp
    replace hr := hr.symm
    replace hq := hq.symm
    subst hr hq
    refine g_if_ne (q := 24) (tg := 28) dX12_rows_21 (by decide) rfl (fun c_21 => ?_) (fun c_21 => ?_)
    · have h10 : 0 ≤ n ∧ n ≤ 10 := by
        have := wbn.mp c_21
        unfold w64 at this
        omega
      refine g_aload_n (q := 29) dX12_rows_28 rfl rfl ?_
      refine g_callV (q := 32) lX12_369 mX12_beginsRows nX12_beginsRows rfl (tw_beginsRows d sh _ S (M.mf mF.th)) (by first | assumption | exact S.at _ rfl) rfl rfl shLe.rf (rmOk.mk (by omega) (by first | exact shLe.rf | assumption)) (Nat.le_of_ble_eq_true rfl) dX12_rows_29 rfl rfl (kN fun c1 hp => ?_)
      obtain ⟨D, h1, e1⟩ := hp
      have e1' := (mF.th (v := 0)).tr (mF.of e1 rfl)
      refine g_iconst (q := 33) dX12_rows_32 rfl ?_
      refine s_istore_n_4_3 (q := 34) dX12_rows_33 rfl rfl rfl ?_
      refine g_for (fun i => [some (.inr (.inr 92)), some (.inl tone), some (.inl n), some (.inl i)]) (fun i c => 0 ≤ i ∧ mF ct c ∧ LD c β mk (-1) (-1) 9 ∧ RwI c β mk tone (fun _ => -1) n.toNat i.toNat (cW β mk tone (fun _ => -1) n.toNat n.toNat st)) n ?_ ?_ (i := 0) (by omega) ⟨by omega, e1', D, RwI.start hrg.1 hrg.2 h1⟩ (by simp [lsSub])
      · rintro i c hi ⟨i0, e, D, R⟩ kk
        refine g_iload_n (q := 35) dX12_rows_34 rfl rfl ?_
        refine g_iload_n (q := 36) dX12_rows_35 rfl rfl ?_
        refine g_icmp_ge (q := 39) (tg := 50) dX12_rows_36 (by decide) rfl (fun c_36 => ?_) (fun c_36 => ?_)
        · exact absurd c_36 (by unfold w32; omega)
        · refine g_aload_n (q := 40) dX12_rows_39 rfl rfl ?_
          refine g_iconst (q := 41) dX12_rows_40 rfl ?_
          refine g_callV (q := 44) lX12_372 mX12_goesRows nX12_goesRows rfl (tw_goesRows d sh _ S (e.L L) D hB (by omega) (R.rg (by omega))) (by first | assumption | exact S.at _ rfl) rfl rfl shLe.rf (rmOk.mk (by omega) (by first | exact shLe.rf | assumption)) (Nat.le_of_ble_eq_true rfl) dX12_rows_41 rfl rfl (kN fun c2 hp => ?_)
          refine s_iinc_4_3 (q := 47) dX12_rows_44 rfl rfl rfl ?_
          refine g_goto (q := 34) dX12_rows_47 (by decide) ?_
          refine kk _ _ (by simp [lsSub]) ⟨by omega, e.tr (mF.of hp.2.2 rfl), D.eq (hp.2.2 100 (by decide)) (hp.2.2 103 (by decide)), ?_⟩
          rw [show (i + 1).toNat = i.toNat + 1 by omega]
          exact R.step hB (by omega) (Or.inl rfl) rfl hp
      · rintro c ⟨-, e, D, R⟩
        refine g_iload_n (q := 35) dX12_rows_34 rfl rfl ?_
        refine g_iload_n (q := 36) dX12_rows_35 rfl rfl ?_
        refine g_icmp_ge (q := 39) (tg := 50) dX12_rows_36 (by decide) rfl (fun c_36 => ?_) (fun c_36 => ?_)
        · refine g_aload_n (q := 51) dX12_rows_50 rfl rfl ?_
          refine g_iload_n (q := 52) dX12_rows_51 rfl rfl ?_
          refine g_callV (q := 55) lX12_375 mX12_endsIn nX12_endsIn rfl (tw_endsIn d sh _ S (e.L L) D htn.1 (by have := htn.2; omega)) (by first | assumption | exact S.at _ rfl) rfl rfl shLe.rf (rmOk.mk (by omega) (by first | exact shLe.rf | assumption)) (Nat.le_of_ble_eq_true rfl) dX12_rows_52 rfl rfl (kL fun r_ c_ hp => ?_)
          obtain ⟨hr, hq⟩ := hp
          replace hr := hr.symm
          replace hq := hq.symm
          subst hr hq
          refine g_lreturn dX12_rows_55 rfl ?_
          rw [← hP]
          exact ⟨_, rfl, Or.inl ⟨htn, h10, R.fin⟩, e⟩
        · exact absurd c_36 (Int.lt_irrefl _)
    · refine g_ldc2 (q := 27) dX12_rows_24 kX12_367 rfl ?_
      refine g_lreturn dX12_rows_27 rfl ?_
      rw [← hP]
      exact ⟨_, rfl, Or.inr ⟨fun z => by have := wb0.mp c_21; unfold w64 at this; omega, rfl⟩, mF.th⟩
end
