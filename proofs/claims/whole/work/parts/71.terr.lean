/-! the reference: errata -/
def nv (v : Int) : Int := if v < 100 then v else 268435356 + v
theorem nv_lt {a b : Int} (ha : 0 ≤ a ∧ a ≤ 101) (hb : 0 ≤ b ∧ b ≤ 101) : nv a < nv b ↔ a < b := by
  unfold nv
  split <;> split <;> omega
theorem nv_in {a : Int} (ha : 0 ≤ a ∧ a ≤ 101) : 0 ≤ nv a ∧ nv a ≤ 268435457 ∧ (nv a < 268435456 ↔ a < 100) ∧ (a = 100 → nv a = 268435456) := by
  unfold nv
  split <;> omega
section
variable {β : Bk} {mk : Int → Int} {tone : Int} {tl : Int → Int} {n : Nat}
theorem eW_small : ∀ r x, eW 0 β mk tone tl n r x < 100 → eW 0 β mk tone tl n r x ≤ r
  | 0, x, h => by
    unfold eW at h ⊢
    split at h
    · rename_i h1
      rw [if_pos h1]
      omega
    · omega
  | r + 1, x, h => by
    unfold eW at h ⊢
    have hm := lmin_le (fun k => eW 0 β mk tone tl n r (nxB β x (k / 8 : Nat) (k % 8 : Nat)) + cost 0 (tl ((n - (r + 1) : Nat) : Int)) k) (brL (alwN 0 β mk x (tl ((n - (r + 1) : Nat) : Int))) 48)
    obtain ⟨k, hk, e⟩ := (hm.2.2).resolve_left (fun z => by omega)
    have h1 := eW_small r (nxB β x (k / 8 : Nat) (k % 8 : Nat))
    have h2 := cost_in 0 (tl ((n - (r + 1) : Nat) : Int)) k
    rw [← e] at h ⊢
    have h3 := h1 (by omega)
    omega
/-- the errata by a minute at a place -/
def eBy (β : Bk) (mk : Int → Int) (tone : Int) (tl : Int → Int) (n k : Nat) (x v : Int) : Int := nv (eW 0 β mk tone tl n (n - (k + 1)) (nxB β x (v / 10) (v % 10)) + (if v = tl k then 0 else 1))
theorem eBy_eq {k : Nat} (hn : n ≤ 12) (x v : Int) : nv (eW 0 β mk tone tl n (n - (k + 1)) (nxB β x (v / 10) (v % 10))) + (if v = tl k then 0 else 1) = eBy β mk tone tl n k x v := by
  unfold eBy
  have h1 := eW_in (s := 0) (β := β) (mk := mk) (tone := tone) (tl := tl) (n := n) (n - (k + 1)) (nxB β x (v / 10) (v % 10))
  have h2 := eW_small (β := β) (mk := mk) (tone := tone) (tl := tl) (n := n) (n - (k + 1)) (nxB β x (v / 10) (v % 10))
  generalize eW 0 β mk tone tl n (n - (k + 1)) (nxB β x (v / 10) (v % 10)) = w at h1 h2 ⊢
  unfold nv
  split <;> split <;> split <;> omega
theorem eBy_in {k : Nat} (x v : Int) : 0 ≤ eBy β mk tone tl n k x v ∧ eBy β mk tone tl n k x v ≤ 268435457 := by
  unfold eBy
  have h1 := eW_in (s := 0) (β := β) (mk := mk) (tone := tone) (tl := tl) (n := n) (n - (k + 1)) (nxB β x (v / 10) (v % 10))
  have := nv_in (a := eW 0 β mk tone tl n (n - (k + 1)) (nxB β x (v / 10) (v % 10)) + (if v = tl k then 0 else 1)) (by split <;> omega)
  exact ⟨this.1, this.2.1⟩
theorem br_ld (hB : bkB β) (x : Int) (t : Int) (i : Nat) : i ∈ brL (alwN 0 β mk x t) 48 ↔ i < 48 ∧ ldP β mk (-1) (-1) 9 x (mnt i) := by
  have e : alwN 0 β mk x t = alwN 1 β mk x (-1) := by
    unfold alwN
    rw [if_neg (by simp), if_neg (by simp)]
  rw [brL_mem, e]
  constructor
  · rintro ⟨a, b⟩
    exact ⟨a, ((alw_ld hB (Or.inl rfl) a).mp b).1⟩
  · rintro ⟨a, b⟩
    exact ⟨a, (alw_ld hB (Or.inl rfl) a).mpr ⟨b, Or.inl rfl⟩⟩
theorem eBy_mnt {k i : Nat} (hi : i < 48) (x : Int) : eBy β mk tone tl n k x (mnt i) = nv (eW 0 β mk tone tl n (n - (k + 1)) (nxB β x (i / 8 : Nat) (i % 8 : Nat)) + cost 0 (tl k) i) := by
  obtain ⟨-, -, a3, a4⟩ := mnt_in hi
  unfold eBy cost
  rw [a3, a4]
  congr 2
  by_cases h : tl k = mnt i
  · rw [if_pos h.symm, if_pos (Or.inr h)]
  · rw [if_neg (fun z => h z.symm), if_neg (by simp [h])]
/-- the least of them -/
theorem eW_min {k : Nat} (hB : bkB β) (hk : k < n) {x w : Int} (h1 : w ≤ 268435456) (h2 : ∀ v, 0 ≤ v → v < 60 → ldP β mk (-1) (-1) 9 x v → w ≤ eBy β mk tone tl n k x v) (h3 : w = 268435456 ∨ ∃ v, 0 ≤ v ∧ v < 60 ∧ ldP β mk (-1) (-1) 9 x v ∧ eBy β mk tone tl n k x v = w) : w = nv (eW 0 β mk tone tl n (n - k) x) := by
  rw [eW_s hk]
  obtain ⟨m1, m2, m3⟩ := lmin_le (fun i => eW 0 β mk tone tl n (n - (k + 1)) (nxB β x (i / 8 : Nat) (i % 8 : Nat)) + cost 0 (tl k) i) (brL (alwN 0 β mk x (tl k)) 48)
  have hg : ∀ i : Nat, 0 ≤ eW 0 β mk tone tl n (n - (k + 1)) (nxB β x (i / 8 : Nat) (i % 8 : Nat)) + cost 0 (tl k) i ∧ eW 0 β mk tone tl n (n - (k + 1)) (nxB β x (i / 8 : Nat) (i % 8 : Nat)) + cost 0 (tl k) i ≤ 101 := by
    intro i
    have a := eW_in (s := 0) (β := β) (mk := mk) (tone := tone) (tl := tl) (n := n) (n - (k + 1)) (nxB β x (i / 8 : Nat) (i % 8 : Nat))
    have b := cost_in 0 (tl k) i
    omega
  have hl0 := lmin_nn (f := fun i => eW 0 β mk tone tl n (n - (k + 1)) (nxB β x (i / 8 : Nat) (i % 8 : Nat)) + cost 0 (tl k) i) (l := brL (alwN 0 β mk x (tl k)) 48) (fun i _ => (hg i).1)
  generalize hL : lmin (fun i => eW 0 β mk tone tl n (n - (k + 1)) (nxB β x (i / 8 : Nat) (i % 8 : Nat)) + cost 0 (tl k) i) (brL (alwN 0 β mk x (tl k)) 48) = Lm at m1 m2 m3 hl0 ⊢
  have hLv := nv_in (a := Lm) (by omega)
  have low : nv Lm ≤ w := by
    rcases h3 with h | ⟨v, v0, v1, hl, hv⟩
    · rw [h]
      rcases Int.lt_or_eq_of_le m1 with h | h
      · have := hLv.2.2.1.mpr h
        omega
      · have := hLv.2.2.2 h
        omega
    · obtain ⟨i, hi, rfl, -, -⟩ := ld_in hB v0 hl
      rw [eBy_mnt hi] at hv
      rw [← hv]
      have := m2 i ((br_ld hB x (tl k) i).mpr ⟨hi, hl⟩)
      have h5 := nv_lt (a := eW 0 β mk tone tl n (n - (k + 1)) (nxB β x (i / 8 : Nat) (i % 8 : Nat)) + cost 0 (tl k) i) (b := Lm) (hg i) (by omega)
      omega
  have up : w ≤ nv Lm := by
    rcases m3 with h | ⟨i, hi, hv⟩
    · have := hLv.2.2.2 h
      omega
    · obtain ⟨hi48, hl⟩ := (br_ld hB x (tl k) i).mp hi
      obtain ⟨a1, a2, -, -⟩ := mnt_in hi48
      have := h2 (mnt i) a1 a2 hl
      rw [eBy_mnt hi48] at this
      rw [← hv]
      exact this
  omega
end
theorem dX12_laysErrata_0 : decode cX12_laysErrata 0 = .ok (.aload_n 0, 1) := by decide +kernel
theorem dX12_laysErrata_1 : decode cX12_laysErrata 1 = .ok (.invokevirtual 351, 3) := by decide +kernel
theorem dX12_laysErrata_4 : decode cX12_laysErrata 4 = .ok (.aload_n 0, 1) := by decide +kernel
theorem dX12_laysErrata_5 : decode cX12_laysErrata 5 = .ok (.getfield 78, 3) := by decide +kernel
theorem dX12_laysErrata_8 : decode cX12_laysErrata 8 = .ok (.iload_n 1, 1) := by decide +kernel
theorem dX12_laysErrata_9 : decode cX12_laysErrata 9 = .ok (.iaload, 1) := by decide +kernel
theorem dX12_laysErrata_10 : decode cX12_laysErrata 10 = .ok (.istore_n 3, 1) := by decide +kernel
theorem dX12_laysErrata_11 : decode cX12_laysErrata 11 = .ok (.iconst 0, 1) := by decide +kernel
theorem dX12_laysErrata_12 : decode cX12_laysErrata 12 = .ok (.istore 4, 2) := by decide +kernel
theorem dX12_laysErrata_14 : decode cX12_laysErrata 14 = .ok (.iload 4, 2) := by decide +kernel
theorem dX12_laysErrata_16 : decode cX12_laysErrata 16 = .ok (.sipush 700, 3) := by decide +kernel
theorem dX12_laysErrata_19 : decode cX12_laysErrata 19 = .ok (.if_icmp .ge 39, 3) := by decide +kernel
theorem dX12_laysErrata_22 : decode cX12_laysErrata 22 = .ok (.aload_n 0, 1) := by decide +kernel
theorem dX12_laysErrata_23 : decode cX12_laysErrata 23 = .ok (.getfield 60, 3) := by decide +kernel
theorem dX12_laysErrata_26 : decode cX12_laysErrata 26 = .ok (.sipush 700, 3) := by decide +kernel
theorem dX12_laysErrata_29 : decode cX12_laysErrata 29 = .ok (.iload_n 3, 1) := by decide +kernel
theorem dX12_laysErrata_30 : decode cX12_laysErrata 30 = .ok (.imul, 1) := by decide +kernel
theorem dX12_laysErrata_31 : decode cX12_laysErrata 31 = .ok (.iload 4, 2) := by decide +kernel
theorem dX12_laysErrata_33 : decode cX12_laysErrata 33 = .ok (.iadd, 1) := by decide +kernel
theorem dX12_laysErrata_34 : decode cX12_laysErrata 34 = .ok (.aload_n 0, 1) := by decide +kernel
theorem dX12_laysErrata_35 : decode cX12_laysErrata 35 = .ok (.iload 4, 2) := by decide +kernel
theorem dX12_laysErrata_37 : decode cX12_laysErrata 37 = .ok (.iload_n 2, 1) := by decide +kernel
theorem dX12_laysErrata_38 : decode cX12_laysErrata 38 = .ok (.invokevirtual 335, 3) := by decide +kernel
theorem dX12_laysErrata_41 : decode cX12_laysErrata 41 = .ok (.ifCond .eq 7, 3) := by decide +kernel
theorem dX12_laysErrata_44 : decode cX12_laysErrata 44 = .ok (.iconst 0, 1) := by decide +kernel
theorem dX12_laysErrata_45 : decode cX12_laysErrata 45 = .ok (.goto 6, 3) := by decide +kernel
theorem dX12_laysErrata_48 : decode cX12_laysErrata 48 = .ok (.ldc_w 334, 3) := by decide +kernel
theorem dX12_laysErrata_51 : decode cX12_laysErrata 51 = .ok (.iastore, 1) := by decide +kernel
theorem dX12_laysErrata_52 : decode cX12_laysErrata 52 = .ok (.iinc 4 1, 3) := by decide +kernel
theorem dX12_laysErrata_55 : decode cX12_laysErrata 55 = .ok (.goto (-41), 3) := by decide +kernel
theorem dX12_laysErrata_58 : decode cX12_laysErrata 58 = .ok (.iload_n 3, 1) := by decide +kernel
theorem dX12_laysErrata_59 : decode cX12_laysErrata 59 = .ok (.iconst 1, 1) := by decide +kernel
theorem dX12_laysErrata_60 : decode cX12_laysErrata 60 = .ok (.isub, 1) := by decide +kernel
theorem dX12_laysErrata_61 : decode cX12_laysErrata 61 = .ok (.istore 4, 2) := by decide +kernel
theorem dX12_laysErrata_63 : decode cX12_laysErrata 63 = .ok (.iload 4, 2) := by decide +kernel
theorem dX12_laysErrata_65 : decode cX12_laysErrata 65 = .ok (.ifCond .lt 92, 3) := by decide +kernel
theorem dX12_laysErrata_68 : decode cX12_laysErrata 68 = .ok (.iconst 0, 1) := by decide +kernel
theorem dX12_laysErrata_69 : decode cX12_laysErrata 69 = .ok (.istore 5, 2) := by decide +kernel
theorem dX12_laysErrata_71 : decode cX12_laysErrata 71 = .ok (.iload 5, 2) := by decide +kernel
theorem dX12_laysErrata_73 : decode cX12_laysErrata 73 = .ok (.sipush 700, 3) := by decide +kernel
theorem dX12_laysErrata_76 : decode cX12_laysErrata 76 = .ok (.if_icmp .ge 75, 3) := by decide +kernel
theorem dX12_laysErrata_79 : decode cX12_laysErrata 79 = .ok (.ldc_w 334, 3) := by decide +kernel
theorem dX12_laysErrata_82 : decode cX12_laysErrata 82 = .ok (.istore 6, 2) := by decide +kernel
theorem dX12_laysErrata_84 : decode cX12_laysErrata 84 = .ok (.iconst 0, 1) := by decide +kernel
theorem dX12_laysErrata_85 : decode cX12_laysErrata 85 = .ok (.istore 7, 2) := by decide +kernel
theorem dX12_laysErrata_87 : decode cX12_laysErrata 87 = .ok (.iload 7, 2) := by decide +kernel
theorem dX12_laysErrata_89 : decode cX12_laysErrata 89 = .ok (.bipush 60, 2) := by decide +kernel
theorem dX12_laysErrata_91 : decode cX12_laysErrata 91 = .ok (.if_icmp .ge 38, 3) := by decide +kernel
theorem dX12_laysErrata_94 : decode cX12_laysErrata 94 = .ok (.aload_n 0, 1) := by decide +kernel
theorem dX12_laysErrata_95 : decode cX12_laysErrata 95 = .ok (.iload_n 1, 1) := by decide +kernel
theorem dX12_laysErrata_96 : decode cX12_laysErrata 96 = .ok (.iload 4, 2) := by decide +kernel
theorem dX12_laysErrata_98 : decode cX12_laysErrata 98 = .ok (.iload 5, 2) := by decide +kernel
theorem dX12_laysErrata_100 : decode cX12_laysErrata 100 = .ok (.iload 7, 2) := by decide +kernel
theorem dX12_laysErrata_102 : decode cX12_laysErrata 102 = .ok (.invokevirtual 396, 3) := by decide +kernel
theorem dX12_laysErrata_105 : decode cX12_laysErrata 105 = .ok (.istore 8, 2) := by decide +kernel
theorem dX12_laysErrata_107 : decode cX12_laysErrata 107 = .ok (.iload 8, 2) := by decide +kernel
theorem dX12_laysErrata_109 : decode cX12_laysErrata 109 = .ok (.iload 6, 2) := by decide +kernel
theorem dX12_laysErrata_111 : decode cX12_laysErrata 111 = .ok (.if_icmp .ge 8, 3) := by decide +kernel
theorem dX12_laysErrata_114 : decode cX12_laysErrata 114 = .ok (.iload 8, 2) := by decide +kernel
theorem dX12_laysErrata_116 : decode cX12_laysErrata 116 = .ok (.goto 5, 3) := by decide +kernel
theorem dX12_laysErrata_119 : decode cX12_laysErrata 119 = .ok (.iload 6, 2) := by decide +kernel
theorem dX12_laysErrata_121 : decode cX12_laysErrata 121 = .ok (.istore 6, 2) := by decide +kernel
theorem dX12_laysErrata_123 : decode cX12_laysErrata 123 = .ok (.iinc 7 1, 3) := by decide +kernel
theorem dX12_laysErrata_126 : decode cX12_laysErrata 126 = .ok (.goto (-39), 3) := by decide +kernel
theorem dX12_laysErrata_129 : decode cX12_laysErrata 129 = .ok (.aload_n 0, 1) := by decide +kernel
theorem dX12_laysErrata_130 : decode cX12_laysErrata 130 = .ok (.getfield 60, 3) := by decide +kernel
theorem dX12_laysErrata_133 : decode cX12_laysErrata 133 = .ok (.sipush 700, 3) := by decide +kernel
theorem dX12_laysErrata_136 : decode cX12_laysErrata 136 = .ok (.iload 4, 2) := by decide +kernel
theorem dX12_laysErrata_138 : decode cX12_laysErrata 138 = .ok (.imul, 1) := by decide +kernel
theorem dX12_laysErrata_139 : decode cX12_laysErrata 139 = .ok (.iload 5, 2) := by decide +kernel
theorem dX12_laysErrata_141 : decode cX12_laysErrata 141 = .ok (.iadd, 1) := by decide +kernel
theorem dX12_laysErrata_142 : decode cX12_laysErrata 142 = .ok (.iload 6, 2) := by decide +kernel
theorem dX12_laysErrata_144 : decode cX12_laysErrata 144 = .ok (.iastore, 1) := by decide +kernel
theorem dX12_laysErrata_145 : decode cX12_laysErrata 145 = .ok (.iinc 5 1, 3) := by decide +kernel
theorem dX12_laysErrata_148 : decode cX12_laysErrata 148 = .ok (.goto (-77), 3) := by decide +kernel
theorem dX12_laysErrata_151 : decode cX12_laysErrata 151 = .ok (.iinc 4 (-1), 3) := by decide +kernel
theorem dX12_laysErrata_154 : decode cX12_laysErrata 154 = .ok (.goto (-91), 3) := by decide +kernel
theorem dX12_laysErrata_157 : decode cX12_laysErrata 157 = .ok (.aload_n 0, 1) := by decide +kernel
theorem dX12_laysErrata_158 : decode cX12_laysErrata 158 = .ok (.getfield 60, 3) := by decide +kernel
theorem dX12_laysErrata_161 : decode cX12_laysErrata 161 = .ok (.aload_n 0, 1) := by decide +kernel
theorem dX12_laysErrata_162 : decode cX12_laysErrata 162 = .ok (.invokevirtual 251, 3) := by decide +kernel
theorem dX12_laysErrata_165 : decode cX12_laysErrata 165 = .ok (.iaload, 1) := by decide +kernel
theorem dX12_laysErrata_166 : decode cX12_laysErrata 166 = .ok (.istore 4, 2) := by decide +kernel
theorem dX12_laysErrata_168 : decode cX12_laysErrata 168 = .ok (.iload 4, 2) := by decide +kernel
theorem dX12_laysErrata_170 : decode cX12_laysErrata 170 = .ok (.ldc_w 334, 3) := by decide +kernel
theorem dX12_laysErrata_173 : decode cX12_laysErrata 173 = .ok (.if_icmp .lt 7, 3) := by decide +kernel
theorem dX12_laysErrata_176 : decode cX12_laysErrata 176 = .ok (.iconst (-1), 1) := by decide +kernel
theorem dX12_laysErrata_177 : decode cX12_laysErrata 177 = .ok (.goto 5, 3) := by decide +kernel
theorem dX12_laysErrata_180 : decode cX12_laysErrata 180 = .ok (.iload 4, 2) := by decide +kernel
theorem dX12_laysErrata_182 : decode cX12_laysErrata 182 = .ok (.ireturn, 1) := by decide +kernel
theorem dX12_errataBy_0 : decode cX12_errataBy 0 = .ok (.aload_n 0, 1) := by decide +kernel
theorem dX12_errataBy_1 : decode cX12_errataBy 1 = .ok (.getfield 40, 3) := by decide +kernel
theorem dX12_errataBy_4 : decode cX12_errataBy 4 = .ok (.bipush 100, 2) := by decide +kernel
theorem dX12_errataBy_6 : decode cX12_errataBy 6 = .ok (.iload_n 3, 1) := by decide +kernel
theorem dX12_errataBy_7 : decode cX12_errataBy 7 = .ok (.imul, 1) := by decide +kernel
theorem dX12_errataBy_8 : decode cX12_errataBy 8 = .ok (.iload 4, 2) := by decide +kernel
theorem dX12_errataBy_10 : decode cX12_errataBy 10 = .ok (.iadd, 1) := by decide +kernel
theorem dX12_errataBy_11 : decode cX12_errataBy 11 = .ok (.iaload, 1) := by decide +kernel
theorem dX12_errataBy_12 : decode cX12_errataBy 12 = .ok (.istore 5, 2) := by decide +kernel
theorem dX12_errataBy_14 : decode cX12_errataBy 14 = .ok (.iload 5, 2) := by decide +kernel
theorem dX12_errataBy_16 : decode cX12_errataBy 16 = .ok (.iconst (-1), 1) := by decide +kernel
theorem dX12_errataBy_17 : decode cX12_errataBy 17 = .ok (.if_icmp .ne 9, 3) := by decide +kernel
theorem dX12_errataBy_20 : decode cX12_errataBy 20 = .ok (.ldc_w 334, 3) := by decide +kernel
theorem dX12_errataBy_23 : decode cX12_errataBy 23 = .ok (.goto 35, 3) := by decide +kernel
theorem dX12_errataBy_26 : decode cX12_errataBy 26 = .ok (.aload_n 0, 1) := by decide +kernel
theorem dX12_errataBy_27 : decode cX12_errataBy 27 = .ok (.getfield 60, 3) := by decide +kernel
theorem dX12_errataBy_30 : decode cX12_errataBy 30 = .ok (.sipush 700, 3) := by decide +kernel
theorem dX12_errataBy_33 : decode cX12_errataBy 33 = .ok (.iload_n 2, 1) := by decide +kernel
theorem dX12_errataBy_34 : decode cX12_errataBy 34 = .ok (.iconst 1, 1) := by decide +kernel
theorem dX12_errataBy_35 : decode cX12_errataBy 35 = .ok (.iadd, 1) := by decide +kernel
theorem dX12_errataBy_36 : decode cX12_errataBy 36 = .ok (.imul, 1) := by decide +kernel
theorem dX12_errataBy_37 : decode cX12_errataBy 37 = .ok (.iload 5, 2) := by decide +kernel
theorem dX12_errataBy_39 : decode cX12_errataBy 39 = .ok (.iadd, 1) := by decide +kernel
theorem dX12_errataBy_40 : decode cX12_errataBy 40 = .ok (.iaload, 1) := by decide +kernel
theorem dX12_errataBy_41 : decode cX12_errataBy 41 = .ok (.iload 4, 2) := by decide +kernel
theorem dX12_errataBy_43 : decode cX12_errataBy 43 = .ok (.aload_n 0, 1) := by decide +kernel
theorem dX12_errataBy_44 : decode cX12_errataBy 44 = .ok (.iload_n 1, 1) := by decide +kernel
theorem dX12_errataBy_45 : decode cX12_errataBy 45 = .ok (.iload_n 2, 1) := by decide +kernel
theorem dX12_errataBy_46 : decode cX12_errataBy 46 = .ok (.invokevirtual 387, 3) := by decide +kernel
theorem dX12_errataBy_49 : decode cX12_errataBy 49 = .ok (.if_icmp .ne 7, 3) := by decide +kernel
theorem dX12_errataBy_52 : decode cX12_errataBy 52 = .ok (.iconst 0, 1) := by decide +kernel
theorem dX12_errataBy_53 : decode cX12_errataBy 53 = .ok (.goto 4, 3) := by decide +kernel
theorem dX12_errataBy_56 : decode cX12_errataBy 56 = .ok (.iconst 1, 1) := by decide +kernel
theorem dX12_errataBy_57 : decode cX12_errataBy 57 = .ok (.iadd, 1) := by decide +kernel
theorem dX12_errataBy_58 : decode cX12_errataBy 58 = .ok (.ireturn, 1) := by decide +kernel
theorem dX12_noErrata_0 : decode cX12_noErrata 0 = .ok (.aload_n 0, 1) := by decide +kernel
theorem dX12_noErrata_1 : decode cX12_noErrata 1 = .ok (.iload_n 1, 1) := by decide +kernel
theorem dX12_noErrata_2 : decode cX12_noErrata 2 = .ok (.bipush 12, 2) := by decide +kernel
theorem dX12_noErrata_4 : decode cX12_noErrata 4 = .ok (.iconst 0, 1) := by decide +kernel
theorem dX12_noErrata_5 : decode cX12_noErrata 5 = .ok (.invokevirtual 390, 3) := by decide +kernel
theorem dX12_noErrata_8 : decode cX12_noErrata 8 = .ok (.istore_n 3, 1) := by decide +kernel
theorem dX12_noErrata_9 : decode cX12_noErrata 9 = .ok (.iload_n 3, 1) := by decide +kernel
theorem dX12_noErrata_10 : decode cX12_noErrata 10 = .ok (.ifCond .eq 7, 3) := by decide +kernel
theorem dX12_noErrata_13 : decode cX12_noErrata 13 = .ok (.iload_n 3, 1) := by decide +kernel
theorem dX12_noErrata_14 : decode cX12_noErrata 14 = .ok (.goto 16, 3) := by decide +kernel
theorem dX12_noErrata_17 : decode cX12_noErrata 17 = .ok (.iload_n 2, 1) := by decide +kernel
theorem dX12_noErrata_18 : decode cX12_noErrata 18 = .ok (.invokestatic 358, 3) := by decide +kernel
theorem dX12_noErrata_21 : decode cX12_noErrata 21 = .ok (.ifCond .eq 7, 3) := by decide +kernel
theorem dX12_noErrata_24 : decode cX12_noErrata 24 = .ok (.iconst 0, 1) := by decide +kernel
theorem dX12_noErrata_25 : decode cX12_noErrata 25 = .ok (.goto 5, 3) := by decide +kernel
theorem dX12_noErrata_28 : decode cX12_noErrata 28 = .ok (.bipush (-3), 2) := by decide +kernel
theorem dX12_noErrata_30 : decode cX12_noErrata 30 = .ok (.ireturn, 1) := by decide +kernel
theorem dX12_errata_0 : decode cX12_errata 0 = .ok (.aload_n 0, 1) := by decide +kernel
theorem dX12_errata_1 : decode cX12_errata 1 = .ok (.iconst 0, 1) := by decide +kernel
theorem dX12_errata_2 : decode cX12_errata 2 = .ok (.putfield 1, 3) := by decide +kernel
theorem dX12_errata_5 : decode cX12_errata 5 = .ok (.aload_n 0, 1) := by decide +kernel
theorem dX12_errata_6 : decode cX12_errata 6 = .ok (.iload_n 1, 1) := by decide +kernel
theorem dX12_errata_7 : decode cX12_errata 7 = .ok (.iload_n 2, 1) := by decide +kernel
theorem dX12_errata_8 : decode cX12_errata 8 = .ok (.invokevirtual 400, 3) := by decide +kernel
theorem dX12_errata_11 : decode cX12_errata 11 = .ok (.istore_n 3, 1) := by decide +kernel
theorem dX12_errata_12 : decode cX12_errata 12 = .ok (.iload_n 3, 1) := by decide +kernel
theorem dX12_errata_13 : decode cX12_errata 13 = .ok (.ifCond .eq 7, 3) := by decide +kernel
theorem dX12_errata_16 : decode cX12_errata 16 = .ok (.iload_n 3, 1) := by decide +kernel
theorem dX12_errata_17 : decode cX12_errata 17 = .ok (.goto 9, 3) := by decide +kernel
theorem dX12_errata_20 : decode cX12_errata 20 = .ok (.aload_n 0, 1) := by decide +kernel
theorem dX12_errata_21 : decode cX12_errata 21 = .ok (.iload_n 1, 1) := by decide +kernel
theorem dX12_errata_22 : decode cX12_errata 22 = .ok (.iload_n 2, 1) := by decide +kernel
theorem dX12_errata_23 : decode cX12_errata 23 = .ok (.invokevirtual 403, 3) := by decide +kernel
theorem dX12_errata_26 : decode cX12_errata 26 = .ok (.ireturn, 1) := by decide +kernel
theorem dX12_right_0 : decode cX12_right 0 = .ok (.aload_n 0, 1) := by decide +kernel
theorem dX12_right_1 : decode cX12_right 1 = .ok (.iconst 0, 1) := by decide +kernel
theorem dX12_right_2 : decode cX12_right 2 = .ok (.putfield 1, 3) := by decide +kernel
theorem dX12_right_5 : decode cX12_right 5 = .ok (.aload_n 0, 1) := by decide +kernel
theorem dX12_right_6 : decode cX12_right 6 = .ok (.iload_n 1, 1) := by decide +kernel
theorem dX12_right_7 : decode cX12_right 7 = .ok (.iload_n 2, 1) := by decide +kernel
theorem dX12_right_8 : decode cX12_right 8 = .ok (.invokevirtual 400, 3) := by decide +kernel
theorem dX12_right_11 : decode cX12_right 11 = .ok (.istore 4, 2) := by decide +kernel
theorem dX12_right_13 : decode cX12_right 13 = .ok (.iload 4, 2) := by decide +kernel
theorem dX12_right_15 : decode cX12_right 15 = .ok (.ifCond .eq 6, 3) := by decide +kernel
theorem dX12_right_18 : decode cX12_right 18 = .ok (.iload 4, 2) := by decide +kernel
theorem dX12_right_20 : decode cX12_right 20 = .ok (.ireturn, 1) := by decide +kernel
theorem dX12_right_21 : decode cX12_right 21 = .ok (.iload_n 3, 1) := by decide +kernel
theorem dX12_right_22 : decode cX12_right 22 = .ok (.ifCond .ge 6, 3) := by decide +kernel
theorem dX12_right_25 : decode cX12_right 25 = .ok (.bipush (-3), 2) := by decide +kernel
theorem dX12_right_27 : decode cX12_right 27 = .ok (.ireturn, 1) := by decide +kernel
theorem dX12_right_28 : decode cX12_right 28 = .ok (.aload_n 0, 1) := by decide +kernel
theorem dX12_right_29 : decode cX12_right 29 = .ok (.iload_n 1, 1) := by decide +kernel
theorem dX12_right_30 : decode cX12_right 30 = .ok (.iload_n 2, 1) := by decide +kernel
theorem dX12_right_31 : decode cX12_right 31 = .ok (.invokevirtual 403, 3) := by decide +kernel
theorem dX12_right_34 : decode cX12_right 34 = .ok (.iconst (-1), 1) := by decide +kernel
theorem dX12_right_35 : decode cX12_right 35 = .ok (.if_icmp .eq 13, 3) := by decide +kernel
theorem dX12_right_38 : decode cX12_right 38 = .ok (.iload_n 3, 1) := by decide +kernel
theorem dX12_right_39 : decode cX12_right 39 = .ok (.aload_n 0, 1) := by decide +kernel
theorem dX12_right_40 : decode cX12_right 40 = .ok (.getfield 78, 3) := by decide +kernel
theorem dX12_right_43 : decode cX12_right 43 = .ok (.iload_n 1, 1) := by decide +kernel
theorem dX12_right_44 : decode cX12_right 44 = .ok (.iaload, 1) := by decide +kernel
theorem dX12_right_45 : decode cX12_right 45 = .ok (.if_icmp .lt 5, 3) := by decide +kernel
theorem dX12_right_48 : decode cX12_right 48 = .ok (.iconst (-1), 1) := by decide +kernel
theorem dX12_right_49 : decode cX12_right 49 = .ok (.ireturn, 1) := by decide +kernel
theorem dX12_right_50 : decode cX12_right 50 = .ok (.aload_n 0, 1) := by decide +kernel
theorem dX12_right_51 : decode cX12_right 51 = .ok (.invokevirtual 251, 3) := by decide +kernel
theorem dX12_right_54 : decode cX12_right 54 = .ok (.istore 5, 2) := by decide +kernel
theorem dX12_right_56 : decode cX12_right 56 = .ok (.iconst 0, 1) := by decide +kernel
theorem dX12_right_57 : decode cX12_right 57 = .ok (.istore 6, 2) := by decide +kernel
theorem dX12_right_59 : decode cX12_right 59 = .ok (.iconst 0, 1) := by decide +kernel
theorem dX12_right_60 : decode cX12_right 60 = .ok (.istore 7, 2) := by decide +kernel
theorem dX12_right_62 : decode cX12_right 62 = .ok (.aload_n 0, 1) := by decide +kernel
theorem dX12_right_63 : decode cX12_right 63 = .ok (.iload_n 1, 1) := by decide +kernel
theorem dX12_right_64 : decode cX12_right 64 = .ok (.iload 6, 2) := by decide +kernel
theorem dX12_right_66 : decode cX12_right 66 = .ok (.iload 5, 2) := by decide +kernel
theorem dX12_right_68 : decode cX12_right 68 = .ok (.iload 7, 2) := by decide +kernel
theorem dX12_right_70 : decode cX12_right 70 = .ok (.invokevirtual 396, 3) := by decide +kernel
theorem dX12_right_73 : decode cX12_right 73 = .ok (.aload_n 0, 1) := by decide +kernel
theorem dX12_right_74 : decode cX12_right 74 = .ok (.getfield 60, 3) := by decide +kernel
theorem dX12_right_77 : decode cX12_right 77 = .ok (.sipush 700, 3) := by decide +kernel
theorem dX12_right_80 : decode cX12_right 80 = .ok (.iload 6, 2) := by decide +kernel
theorem dX12_right_82 : decode cX12_right 82 = .ok (.imul, 1) := by decide +kernel
theorem dX12_right_83 : decode cX12_right 83 = .ok (.iload 5, 2) := by decide +kernel
theorem dX12_right_85 : decode cX12_right 85 = .ok (.iadd, 1) := by decide +kernel
theorem dX12_right_86 : decode cX12_right 86 = .ok (.iaload, 1) := by decide +kernel
theorem dX12_right_87 : decode cX12_right 87 = .ok (.if_icmp .eq 9, 3) := by decide +kernel
theorem dX12_right_90 : decode cX12_right 90 = .ok (.iinc 7 1, 3) := by decide +kernel
theorem dX12_right_93 : decode cX12_right 93 = .ok (.goto (-31), 3) := by decide +kernel
theorem dX12_right_96 : decode cX12_right 96 = .ok (.iload 6, 2) := by decide +kernel
theorem dX12_right_98 : decode cX12_right 98 = .ok (.iload_n 3, 1) := by decide +kernel
theorem dX12_right_99 : decode cX12_right 99 = .ok (.if_icmp .ne 6, 3) := by decide +kernel
theorem dX12_right_102 : decode cX12_right 102 = .ok (.iload 7, 2) := by decide +kernel
theorem dX12_right_104 : decode cX12_right 104 = .ok (.ireturn, 1) := by decide +kernel
theorem dX12_right_105 : decode cX12_right 105 = .ok (.aload_n 0, 1) := by decide +kernel
theorem dX12_right_106 : decode cX12_right 106 = .ok (.getfield 40, 3) := by decide +kernel
theorem dX12_right_109 : decode cX12_right 109 = .ok (.bipush 100, 2) := by decide +kernel
theorem dX12_right_111 : decode cX12_right 111 = .ok (.iload 5, 2) := by decide +kernel
theorem dX12_right_113 : decode cX12_right 113 = .ok (.imul, 1) := by decide +kernel
theorem dX12_right_114 : decode cX12_right 114 = .ok (.iload 7, 2) := by decide +kernel
theorem dX12_right_116 : decode cX12_right 116 = .ok (.iadd, 1) := by decide +kernel
theorem dX12_right_117 : decode cX12_right 117 = .ok (.iaload, 1) := by decide +kernel
theorem dX12_right_118 : decode cX12_right 118 = .ok (.istore 5, 2) := by decide +kernel
theorem dX12_right_120 : decode cX12_right 120 = .ok (.iinc 6 1, 3) := by decide +kernel
theorem dX12_right_123 : decode cX12_right 123 = .ok (.goto (-64), 3) := by decide +kernel
theorem dX12_back_0 : decode cX12_back 0 = .ok (.aload_n 0, 1) := by decide +kernel
theorem dX12_back_1 : decode cX12_back 1 = .ok (.iconst 0, 1) := by decide +kernel
theorem dX12_back_2 : decode cX12_back 2 = .ok (.putfield 1, 3) := by decide +kernel
theorem dX12_back_5 : decode cX12_back 5 = .ok (.aload_n 0, 1) := by decide +kernel
theorem dX12_back_6 : decode cX12_back 6 = .ok (.iload_n 1, 1) := by decide +kernel
theorem dX12_back_7 : decode cX12_back 7 = .ok (.iload_n 2, 1) := by decide +kernel
theorem dX12_back_8 : decode cX12_back 8 = .ok (.invokevirtual 400, 3) := by decide +kernel
theorem dX12_back_11 : decode cX12_back 11 = .ok (.istore_n 3, 1) := by decide +kernel
theorem dX12_back_12 : decode cX12_back 12 = .ok (.iload_n 3, 1) := by decide +kernel
theorem dX12_back_13 : decode cX12_back 13 = .ok (.ifCond .eq 5, 3) := by decide +kernel
theorem dX12_back_16 : decode cX12_back 16 = .ok (.iload_n 3, 1) := by decide +kernel
theorem dX12_back_17 : decode cX12_back 17 = .ok (.ireturn, 1) := by decide +kernel
theorem dX12_back_18 : decode cX12_back 18 = .ok (.aload_n 0, 1) := by decide +kernel
theorem dX12_back_19 : decode cX12_back 19 = .ok (.iload_n 1, 1) := by decide +kernel
theorem dX12_back_20 : decode cX12_back 20 = .ok (.iload_n 2, 1) := by decide +kernel
theorem dX12_back_21 : decode cX12_back 21 = .ok (.invokevirtual 403, 3) := by decide +kernel
theorem dX12_back_24 : decode cX12_back 24 = .ok (.iconst (-1), 1) := by decide +kernel
theorem dX12_back_25 : decode cX12_back 25 = .ok (.if_icmp .ne 5, 3) := by decide +kernel
theorem dX12_back_28 : decode cX12_back 28 = .ok (.iconst (-1), 1) := by decide +kernel
theorem dX12_back_29 : decode cX12_back 29 = .ok (.ireturn, 1) := by decide +kernel
theorem dX12_back_30 : decode cX12_back 30 = .ok (.iconst 0, 1) := by decide +kernel
theorem dX12_back_31 : decode cX12_back 31 = .ok (.istore 4, 2) := by decide +kernel
theorem dX12_back_33 : decode cX12_back 33 = .ok (.aload_n 0, 1) := by decide +kernel
theorem dX12_back_34 : decode cX12_back 34 = .ok (.invokevirtual 251, 3) := by decide +kernel
theorem dX12_back_37 : decode cX12_back 37 = .ok (.istore 5, 2) := by decide +kernel
theorem dX12_back_39 : decode cX12_back 39 = .ok (.iconst 0, 1) := by decide +kernel
theorem dX12_back_40 : decode cX12_back 40 = .ok (.istore 6, 2) := by decide +kernel
theorem dX12_back_42 : decode cX12_back 42 = .ok (.iload 6, 2) := by decide +kernel
theorem dX12_back_44 : decode cX12_back 44 = .ok (.aload_n 0, 1) := by decide +kernel
theorem dX12_back_45 : decode cX12_back 45 = .ok (.getfield 78, 3) := by decide +kernel
theorem dX12_back_48 : decode cX12_back 48 = .ok (.iload_n 1, 1) := by decide +kernel
theorem dX12_back_49 : decode cX12_back 49 = .ok (.iaload, 1) := by decide +kernel
theorem dX12_back_50 : decode cX12_back 50 = .ok (.if_icmp .ge 66, 3) := by decide +kernel
theorem dX12_back_53 : decode cX12_back 53 = .ok (.aload_n 0, 1) := by decide +kernel
theorem dX12_back_54 : decode cX12_back 54 = .ok (.getfield 40, 3) := by decide +kernel
theorem dX12_back_57 : decode cX12_back 57 = .ok (.bipush 100, 2) := by decide +kernel
theorem dX12_back_59 : decode cX12_back 59 = .ok (.iload 5, 2) := by decide +kernel
theorem dX12_back_61 : decode cX12_back 61 = .ok (.imul, 1) := by decide +kernel
theorem dX12_back_62 : decode cX12_back 62 = .ok (.aload_n 0, 1) := by decide +kernel
theorem dX12_back_63 : decode cX12_back 63 = .ok (.iload_n 1, 1) := by decide +kernel
theorem dX12_back_64 : decode cX12_back 64 = .ok (.iload 6, 2) := by decide +kernel
theorem dX12_back_66 : decode cX12_back 66 = .ok (.invokevirtual 387, 3) := by decide +kernel
theorem dX12_back_69 : decode cX12_back 69 = .ok (.iadd, 1) := by decide +kernel
theorem dX12_back_70 : decode cX12_back 70 = .ok (.iaload, 1) := by decide +kernel
theorem dX12_back_71 : decode cX12_back 71 = .ok (.istore 5, 2) := by decide +kernel
theorem dX12_back_73 : decode cX12_back 73 = .ok (.iload 5, 2) := by decide +kernel
theorem dX12_back_75 : decode cX12_back 75 = .ok (.iconst (-1), 1) := by decide +kernel
theorem dX12_back_76 : decode cX12_back 76 = .ok (.if_icmp .ne 6, 3) := by decide +kernel
theorem dX12_back_79 : decode cX12_back 79 = .ok (.iload 4, 2) := by decide +kernel
theorem dX12_back_81 : decode cX12_back 81 = .ok (.ireturn, 1) := by decide +kernel
theorem dX12_back_82 : decode cX12_back 82 = .ok (.aload_n 0, 1) := by decide +kernel
theorem dX12_back_83 : decode cX12_back 83 = .ok (.getfield 60, 3) := by decide +kernel
theorem dX12_back_86 : decode cX12_back 86 = .ok (.sipush 700, 3) := by decide +kernel
theorem dX12_back_89 : decode cX12_back 89 = .ok (.iload 6, 2) := by decide +kernel
theorem dX12_back_91 : decode cX12_back 91 = .ok (.iconst 1, 1) := by decide +kernel
theorem dX12_back_92 : decode cX12_back 92 = .ok (.iadd, 1) := by decide +kernel
theorem dX12_back_93 : decode cX12_back 93 = .ok (.imul, 1) := by decide +kernel
theorem dX12_back_94 : decode cX12_back 94 = .ok (.iload 5, 2) := by decide +kernel
theorem dX12_back_96 : decode cX12_back 96 = .ok (.iadd, 1) := by decide +kernel
theorem dX12_back_97 : decode cX12_back 97 = .ok (.iaload, 1) := by decide +kernel
theorem dX12_back_98 : decode cX12_back 98 = .ok (.ldc_w 334, 3) := by decide +kernel
theorem dX12_back_101 : decode cX12_back 101 = .ok (.if_icmp .ge 9, 3) := by decide +kernel
theorem dX12_back_104 : decode cX12_back 104 = .ok (.iload 6, 2) := by decide +kernel
theorem dX12_back_106 : decode cX12_back 106 = .ok (.iconst 1, 1) := by decide +kernel
theorem dX12_back_107 : decode cX12_back 107 = .ok (.iadd, 1) := by decide +kernel
theorem dX12_back_108 : decode cX12_back 108 = .ok (.istore 4, 2) := by decide +kernel
theorem dX12_back_110 : decode cX12_back 110 = .ok (.iinc 6 1, 3) := by decide +kernel
theorem dX12_back_113 : decode cX12_back 113 = .ok (.goto (-71), 3) := by decide +kernel
theorem dX12_back_116 : decode cX12_back 116 = .ok (.iload 4, 2) := by decide +kernel
theorem dX12_back_118 : decode cX12_back 118 = .ok (.ireturn, 1) := by decide +kernel
section
variable (d : Nat) (sh : mbSh) (ct : mbCt) {β : Bk} {mk : Int → Int} {st : Int} {sz bt : Int → Int} {vl : Int → Int → Int}
/-- the layers from k on are right -/
def WgT (c : mbCt) (β : Bk) (mk : Int → Int) (tone : Int) (tl : Int → Int) (n : Nat) (k : Int) : Prop := ∀ j : Nat, k ≤ j → j ≤ n → ∀ x, 0 ≤ x → x < 700 → c 106 (700 * j + x) = nv (eW 0 β mk tone tl n (n - j) x)
theorem tw_errataBy {t x v tone : Int} {n k : Nat} {tl : Int → Int} (S : SH sh) (L : LK ct) (hB : bkB β) (D : LD ct β mk (-1) (-1) 9) (R : rowT ct t n tl) (hn : n ≤ 12) (hk : k < n) (W : WgT ct β mk tone tl n ((k : Int) + 1)) (x0 : 0 ≤ x) (x1 : x < 700) (v0 : 0 ≤ v) (v1 : v < 60) : Mt YX12_errataBy (d + 1) [.inr (.inr 92), .inl t, .inl k, .inl x, .inl v] sh sh ct (pI fun r c => r = (if ldP β mk (-1) (-1) 9 x v then eBy β mk tone tl n k x v else 268435456) ∧ c = ct) := by
  have s100 : shA sh 100 = some (20, 70000) := S.at _ rfl
  have s106 : shA sh 106 = some (20, 9100) := S.at _ rfl
  have hld := D.at x0 x1 v0 (by omega)
  have hp := ldV_p (β := β) (mk := mk) (qu := -1) (un := -1) (mo := 9) (x := x) v0
  have hRk := R.2.2.2 k hk
  refine Mt.of rfl (Nat.le_of_ble_eq_true rfl) ?_
  show G _ 0 [some (.inr (.inr 92)), some (.inl t), some (.inl (k : Int)), some (.inl x), some (.inl v), none] [] sh ct
  refine g_aload_n (q := 1) dX12_errataBy_0 rfl rfl ?_
  refine g_getA (q := 4) (kI := 21) fX12_40 (by first | assumption | exact S.at _ rfl) dX12_errataBy_1 rfl rfl (by first | assumption | exact L.at _ _ rfl | exact LK.at (by assumption) _ _ rfl | ((repeat first | rewrite [wr_na (by decide)] | rewrite [wr_nk (by decide)] | rewrite [wa_na (by decide)]); first | assumption | exact LK.at (by assumption) _ _ rfl) | exact rfl) ?_
  refine g_bipush (q := 6) dX12_errataBy_4 (by decide +kernel) rfl ?_
  refine g_iload_n (q := 7) dX12_errataBy_6 rfl rfl ?_
  refine g_imul (q := 8) dX12_errataBy_7 rfl ?_
  refine g_iload (q := 10) dX12_errataBy_8 rfl rfl ?_
  refine g_iadd (q := 11) dX12_errataBy_10 rfl ?_
  refine g_iaload (q := 12) (by first | assumption | exact S.at _ rfl) (by omega) (by omega) (by omega) dX12_errataBy_11 rfl ?_
  rw [hld]
  by_cases hq : ldP β mk (-1) (-1) 9 x v
  · rw [hp.2 hq, if_pos hq]
    have hb2 := hB.2.2.1
    have hnx := nxB_in (β := β) (st := x) (m := v / 10) (s := v % 10) (by omega) (by have := hq.1.1; omega)
    have hW := W (k + 1) (by omega) (by omega) _ hnx.1 hnx.2
    rw [show (700 * ((k + 1 : Nat) : Int) + nxB β x (v / 10) (v % 10)) = 700 * ((k : Int) + 1) + nxB β x (v / 10) (v % 10) by omega] at hW
    refine s_istore_6_5 (q := 14) dX12_errataBy_12 rfl rfl rfl ?_
    refine g_iload (q := 16) dX12_errataBy_14 rfl rfl ?_
    refine g_iconst (q := 17) dX12_errataBy_16 rfl ?_
    refine g_icmp_ne (q := 20) (tg := 26) dX12_errataBy_17 (by decide) rfl (fun c_17 => ?_) (fun c_17 => ?_)
    · refine g_aload_n (q := 27) dX12_errataBy_26 rfl rfl ?_
      refine g_getA (q := 30) (kI := 27) fX12_60 (by first | assumption | exact S.at _ rfl) dX12_errataBy_27 rfl rfl (by first | assumption | exact L.at _ _ rfl | exact LK.at (by assumption) _ _ rfl | ((repeat first | rewrite [wr_na (by decide)] | rewrite [wr_nk (by decide)] | rewrite [wa_na (by decide)]); first | assumption | exact LK.at (by assumption) _ _ rfl) | exact rfl) ?_
      refine g_sipush (q := 33) dX12_errataBy_30 (by decide +kernel) rfl ?_
      refine g_iload_n (q := 34) dX12_errataBy_33 rfl rfl ?_
      refine g_iconst (q := 35) dX12_errataBy_34 rfl ?_
      refine g_iadd (q := 36) dX12_errataBy_35 rfl ?_
      refine g_imul (q := 37) dX12_errataBy_36 rfl ?_
      refine g_iload (q := 39) dX12_errataBy_37 rfl rfl ?_
      refine g_iadd (q := 40) dX12_errataBy_39 rfl ?_
      refine g_iaload (q := 41) (by first | assumption | exact S.at _ rfl) (by omega) (by omega) (by omega) dX12_errataBy_40 rfl ?_
      refine g_iload (q := 43) dX12_errataBy_41 rfl rfl ?_
      refine g_aload_n (q := 44) dX12_errataBy_43 rfl rfl ?_
      refine g_iload_n (q := 45) dX12_errataBy_44 rfl rfl ?_
      refine g_iload_n (q := 46) dX12_errataBy_45 rfl rfl ?_
      rw [hW]
      refine g_callV (q := 49) lX12_387 mX12_minuteIn nX12_minuteIn rfl (tw_minuteIn d sh _ S L R hk) (by first | assumption | exact S.at _ rfl) rfl rfl shLe.rf (rmOk.mk (by omega) (by first | exact shLe.rf | assumption)) (Nat.le_of_ble_eq_true rfl) dX12_errataBy_46 rfl rfl (kI fun r_ c_ hp => ?_)
      obtain ⟨hr, hq⟩ := hp
      replace hr := hr.symm
      replace hq := hq.symm
      subst hr hq
      have he := eBy_eq (β := β) (mk := mk) (tone := tone) (tl := tl) (k := k) hn x v
      refine g_icmp_ne (q := 52) (tg := 56) dX12_errataBy_49 (by decide) rfl (fun c_49 => ?_) (fun c_49 => ?_)
      · refine g_iconst (q := 57) dX12_errataBy_56 rfl ?_
        refine g_iadd (q := 58) dX12_errataBy_57 rfl ?_
        refine g_ireturn dX12_errataBy_58 rfl ?_
        refine ⟨_, rfl, ?_, rfl⟩
        rw [← he, if_neg (fun z => c_49 (by rw [z]))]
      · refine g_iconst (q := 53) dX12_errataBy_52 rfl ?_
        refine g_goto (q := 57) dX12_errataBy_53 (by decide) ?_
        refine g_iadd (q := 58) dX12_errataBy_57 rfl ?_
        refine g_ireturn dX12_errataBy_58 rfl ?_
        refine ⟨_, rfl, ?_, rfl⟩
        rw [← he, if_pos (by unfold w32 at c_49; omega)]
    · exact absurd c_17 (by unfold w32; omega)
  · rw [hp.1.mpr hq, if_neg hq]
    refine s_istore_6_5 (q := 14) dX12_errataBy_12 rfl rfl rfl ?_
    refine g_iload (q := 16) dX12_errataBy_14 rfl rfl ?_
    refine g_iconst (q := 17) dX12_errataBy_16 rfl ?_
    refine g_icmp_ne (q := 20) (tg := 26) dX12_errataBy_17 (by decide) rfl (fun c_17 => ?_) (fun c_17 => ?_)
    · exact absurd rfl c_17
    · refine g_ldcw (q := 23) dX12_errataBy_20 kX12_334 rfl ?_
      refine g_goto (q := 58) dX12_errataBy_23 (by decide) ?_
      refine g_ireturn dX12_errataBy_58 rfl ?_
      exact ⟨_, rfl, rfl, rfl⟩
def errV (β : Bk) (mk : Int → Int) (tone : Int) (tl : Int → Int) (n : Nat) (st : Int) : Int := if eW 0 β mk tone tl n n st = 100 then -1 else eW 0 β mk tone tl n n st
set_option maxRecDepth 4000 in
theorem tw_laysErrata {t tone : Int} {n : Nat} {tl : Int → Int} (S : SH sh) (M : MD ct β mk st) (R : rowT ct t n tl) (hn : n ≤ 12) (hn1 : 1 ≤ n) (t0 : -1 ≤ tone) (t1 : tone ≤ 10) : Mt YX12_laysErrata (d + 6) [.inr (.inr 92), .inl t, .inl tone] sh sh ct (pI fun r c => r = errV β mk tone tl n st ∧ LD c β mk (-1) (-1) 9 ∧ WgT c β mk tone tl n 0 ∧ eqBut [97, 98, 100, 103, 106] ct c) := by
  have hB := M.B
  have hrg := M.rg
  have hR := R
  obtain ⟨h1, h2, h3, h4⟩ := hR
  have s106 : shA sh 106 = some (20, 9100) := S.at _ rfl
  have s112 : shA sh 112 = some (20, 4) := S.at _ rfl
  generalize hP : (pI fun r c => r = errV β mk tone tl n st ∧ LD c β mk (-1) (-1) 9 ∧ WgT c β mk tone tl n 0 ∧ eqBut [97, 98, 100, 103, 106] ct c) = Po
  refine Mt.of rfl (Nat.le_of_ble_eq_true rfl) ?_
  show G _ 0 [some (.inr (.inr 92)), some (.inl t), some (.inl tone), none, none, none, none, none, none] [] sh ct
  refine g_aload_n (q := 1) dX12_laysErrata_0 rfl rfl ?_
  refine g_callV (q := 4) lX12_351 mX12_laysPlain nX12_laysPlain rfl (tw_laysPlain d sh _ S M) (by first | assumption | exact S.at _ rfl) rfl rfl shLe.rf (rmOk.mk (by omega) (by first | exact shLe.rf | assumption)) (Nat.le_of_ble_eq_true rfl) dX12_laysErrata_1 rfl rfl (kN fun c1 hp => ?_)
  obtain ⟨D, e1⟩ := hp
  have L1 : LK c1 := M.L.eb e1 rfl
  have R1 : rowT c1 t n tl := R.eq ct (e1 112 (by decide)) (e1 113 (by decide))
  have M1 : MD c1 β mk st := M.eq L1 (e1 93 (by decide))
  have h112 := R1.2.2.1
  -- the end
  have last : ∀ c : mbCt, ∀ o4 o5 o6 o7 o8, eqBut [106] c1 c → WgT c β mk tone tl n 0 → G (mkK YX12_laysErrata (d + 6) sh sh Po) 157 [some (.inr (.inr 92)), some (.inl t), some (.inl tone), some (.inl n), o4, o5, o6, o7, o8] [] sh c := by
    intro c o4 o5 o6 o7 o8 e W
    have L2 : LK c := L1.eb e rfl
    have M2 : MD c β mk st := M1.eq L2 (e 93 (by decide))
    have hw := W 0 (by omega) (by omega) st hrg.1 hrg.2
    rw [show (700 * ((0 : Nat) : Int) + st) = st by omega, Nat.sub_zero] at hw
    have hin := eW_in (s := 0) (β := β) (mk := mk) (tone := tone) (tl := tl) (n := n) n st
    have hnv := nv_in (a := eW 0 β mk tone tl n n st) (by omega)
    have fin : LD c β mk (-1) (-1) 9 ∧ WgT c β mk tone tl n 0 ∧ eqBut [97, 98, 100, 103, 106] ct c := ⟨D.eq (e 100 (by decide)) (e 103 (by decide)), W, (e1.mono (by decide)).tr (e.mono (by decide))⟩
    refine g_aload_n (q := 158) dX12_laysErrata_157 rfl rfl ?_
    refine g_getA (q := 161) (kI := 27) fX12_60 (by first | assumption | exact S.at _ rfl) dX12_laysErrata_158 rfl rfl (by first | assumption | exact L.at _ _ rfl | exact LK.at (by assumption) _ _ rfl | ((repeat first | rewrite [wr_na (by decide)] | rewrite [wr_nk (by decide)] | rewrite [wa_na (by decide)]); first | assumption | exact LK.at (by assumption) _ _ rfl) | exact rfl) ?_
    refine g_aload_n (q := 162) dX12_laysErrata_161 rfl rfl ?_
    refine g_callV (q := 165) lX12_251 mX12_standNow nX12_standNow rfl (tw_standNow (d + 5) sh _ M2 S) (by first | assumption | exact S.at _ rfl) rfl rfl shLe.rf (rmOk.mk (by omega) (by first | exact shLe.rf | assumption)) (Nat.le_of_ble_eq_true rfl) dX12_laysErrata_162 rfl rfl (kI fun r_ c_ hp => ?_)
    obtain ⟨hr, hq⟩ := hp
    replace hr := hr.symm
    replace hq := hq.symm
    subst hr hq
    refine g_iaload (q := 166) (by first | assumption | exact S.at _ rfl) (by omega) (by omega) (by omega) dX12_laysErrata_165 rfl ?_
    rw [hw]
    refine s_istore_9_4 (q := 168) dX12_laysErrata_166 rfl rfl rfl ?_
    refine g_iload (q := 170) dX12_laysErrata_168 rfl rfl ?_
    refine g_ldcw (q := 173) dX12_laysErrata_170 kX12_334 rfl ?_
    refine g_icmp_lt (q := 176) (tg := 180) dX12_laysErrata_173 (by decide) rfl (fun c_173 => ?_) (fun c_173 => ?_)
    · have hlt : eW 0 β mk tone tl n n st < 100 := hnv.2.2.1.mp (by unfold w32 at c_173; omega)
      refine g_iload (q := 182) dX12_laysErrata_180 rfl rfl ?_
      refine g_ireturn dX12_laysErrata_182 rfl ?_
      rw [← hP]
      refine ⟨_, rfl, ?_, fin⟩
      unfold errV nv
      rw [if_pos hlt, if_neg (by omega)]
    · have hge : ¬ eW 0 β mk tone tl n n st < 100 := fun z => by
        have := hnv.2.2.1.mpr z
        unfold w32 at c_173
        omega
      refine g_iconst (q := 177) dX12_laysErrata_176 rfl ?_
      refine g_goto (q := 182) dX12_laysErrata_177 (by decide) ?_
      refine g_ireturn dX12_laysErrata_182 rfl ?_
      rw [← hP]
      refine ⟨_, rfl, ?_, fin⟩
      unfold errV
      rw [if_pos (by omega)]
  -- layer by layer
  have down : ∀ (k : Nat) (c : mbCt) (o5 o6 o7 o8 : Option gV), k ≤ n → eqBut [106] c1 c → WgT c β mk tone tl n k → G (mkK YX12_laysErrata (d + 6) sh sh Po) 63 [some (.inr (.inr 92)), some (.inl t), some (.inl tone), some (.inl n), some (.inl ((k : Int) - 1)), o5, o6, o7, o8] [] sh c := by
    intro k
    induction k with
    | zero =>
      intro c o5 o6 o7 o8 hk e W
      refine g_iload (q := 65) dX12_laysErrata_63 rfl rfl ?_
      refine g_if_lt (q := 68) (tg := 157) dX12_laysErrata_65 (by decide) rfl (fun c_65 => ?_) (fun c_65 => ?_)
      · exact last c _ _ _ _ _ e W
      · exact absurd c_65 (by decide)
    | succ k ih =>
      intro c o5 o6 o7 o8 hk e W
      have ek : ((k + 1 : Nat) : Int) - 1 = k := by omega
      rw [ek]
      refine g_iload (q := 65) dX12_laysErrata_63 rfl rfl ?_
      refine g_if_lt (q := 68) (tg := 157) dX12_laysErrata_65 (by decide) rfl (fun c_65 => ?_) (fun c_65 => ?_)
      · exact absurd c_65 (by unfold w32; omega)
      · refine g_iconst (q := 69) dX12_laysErrata_68 rfl ?_
        refine s_istore_9_5 (q := 71) dX12_laysErrata_69 rfl rfl rfl ?_
        refine g_for (fun x => [some (.inr (.inr 92)), some (.inl t), some (.inl tone), some (.inl n), some (.inl k), some (.inl x), none, none, none]) (fun x c => 0 ≤ x ∧ eqBut [106] c1 c ∧ WgT c β mk tone tl n ((k : Int) + 1) ∧ ∀ y, 0 ≤ y → y < x → c 106 (700 * k + y) = nv (eW 0 β mk tone tl n (n - k) y)) 700 ?_ ?_ (i := 0) (by omega) ⟨by omega, e, fun j a b => W j (by omega) b, fun y _ _ => by omega⟩ (by simp [lsSub])
        · rintro x c hx ⟨x0, e, W, hy⟩ kk
          have L2 : LK c := L1.eb e rfl
          have R2 : rowT c t n tl := R1.eq c1 (e 112 (by decide)) (e 113 (by decide))
          have D2 : LD c β mk (-1) (-1) 9 := D.eq (e 100 (by decide)) (e 103 (by decide))
          refine g_iload (q := 73) dX12_laysErrata_71 rfl rfl ?_
          refine g_sipush (q := 76) dX12_laysErrata_73 (by decide +kernel) rfl ?_
          refine g_icmp_ge (q := 79) (tg := 151) dX12_laysErrata_76 (by decide) rfl (fun c_76 => ?_) (fun c_76 => ?_)
          · exact absurd c_76 (by unfold w32; omega)
          · refine g_ldcw (q := 82) dX12_laysErrata_79 kX12_334 rfl ?_
            refine s_istore_9_6 (q := 84) dX12_laysErrata_82 rfl rfl rfl ?_
            refine g_iconst (q := 85) dX12_laysErrata_84 rfl ?_
            refine s_istore_9_7 (q := 87) dX12_laysErrata_85 rfl rfl rfl ?_
            refine g_forA (α := Int) (fun v w => [some (.inr (.inr 92)), some (.inl t), some (.inl tone), some (.inl n), some (.inl k), some (.inl x), some (.inl w), some (.inl v), none]) (fun v w c2 => 0 ≤ v ∧ c2 = c ∧ (0 ≤ w ∧ w ≤ 268435456) ∧ (∀ v', 0 ≤ v' → v' < v → ldP β mk (-1) (-1) 9 x v' → w ≤ eBy β mk tone tl n k x v') ∧ (w = 268435456 ∨ ∃ v', 0 ≤ v' ∧ v' < 60 ∧ ldP β mk (-1) (-1) 9 x v' ∧ eBy β mk tone tl n k x v' = w)) 60 ?_ ?_ (i := 0) (a := 268435456) (by omega) ⟨by omega, rfl, by omega, fun v' _ _ => by omega, Or.inl rfl⟩ (by simp [lsSub])
            · rintro v w c2 hv ⟨v0, hc, hw, hmin, hor⟩ k2
              subst hc
              have hb := eBy_in (β := β) (mk := mk) (tone := tone) (tl := tl) (n := n) (k := k) x v
              refine g_iload (q := 89) dX12_laysErrata_87 rfl rfl ?_
              refine g_bipush (q := 91) dX12_laysErrata_89 (by decide +kernel) rfl ?_
              refine g_icmp_ge (q := 94) (tg := 129) dX12_laysErrata_91 (by decide) rfl (fun c_91 => ?_) (fun c_91 => ?_)
              · exact absurd c_91 (by unfold w32; omega)
              · refine g_aload_n (q := 95) dX12_laysErrata_94 rfl rfl ?_
                refine g_iload_n (q := 96) dX12_laysErrata_95 rfl rfl ?_
                refine g_iload (q := 98) dX12_laysErrata_96 rfl rfl ?_
                refine g_iload (q := 100) dX12_laysErrata_98 rfl rfl ?_
                refine g_iload (q := 102) dX12_laysErrata_100 rfl rfl ?_
                refine g_callV (q := 105) lX12_396 mX12_errataBy nX12_errataBy rfl (tw_errataBy d sh _ (tone := tone) S L2 hB D2 R2 hn (by omega) W x0 hx v0 hv) (by first | assumption | exact S.at _ rfl) rfl rfl shLe.rf (rmOk.mk (by omega) (by first | exact shLe.rf | assumption)) (Nat.le_of_ble_eq_true rfl) dX12_laysErrata_102 rfl rfl (kI fun r_ c_ hp => ?_)
                obtain ⟨hr, hq⟩ := hp
                replace hr := hr.symm
                replace hq := hq.symm
                subst hr hq
                by_cases hq : ldP β mk (-1) (-1) 9 x v
                · rw [if_pos hq]
                  refine s_istore_9_8 (q := 107) dX12_laysErrata_105 rfl rfl rfl ?_
                  refine g_iload (q := 109) dX12_laysErrata_107 rfl rfl ?_
                  refine g_iload (q := 111) dX12_laysErrata_109 rfl rfl ?_
                  refine g_icmp_ge (q := 114) (tg := 119) dX12_laysErrata_111 (by decide) rfl (fun c_111 => ?_) (fun c_111 => ?_)
                  · have hge : w ≤ eBy β mk tone tl n k x v := by unfold w32 at c_111; omega
                    refine g_iload (q := 121) dX12_laysErrata_119 rfl rfl ?_
                    refine s_istore_9_6 (q := 123) dX12_laysErrata_121 rfl rfl rfl ?_
                    refine s_iinc_9_7 (q := 126) dX12_laysErrata_123 rfl rfl rfl ?_
                    refine g_goto (q := 87) dX12_laysErrata_126 (by decide) ?_
                    refine k2 w _ _ (by simp [lsSub]) ⟨by omega, rfl, hw, fun v' a b l => ?_, hor⟩
                    by_cases hv' : v' = v
                    · subst hv'
                      exact hge
                    · exact hmin v' a (by omega) l
                  · have hlt : eBy β mk tone tl n k x v < w := by unfold w32 at c_111; omega
                    refine g_iload (q := 116) dX12_laysErrata_114 rfl rfl ?_
                    refine g_goto (q := 121) dX12_laysErrata_116 (by decide) ?_
                    refine s_istore_9_6 (q := 123) dX12_laysErrata_121 rfl rfl rfl ?_
                    refine s_iinc_9_7 (q := 126) dX12_laysErrata_123 rfl rfl rfl ?_
                    refine g_goto (q := 87) dX12_laysErrata_126 (by decide) ?_
                    refine k2 (eBy β mk tone tl n k x v) _ _ (by simp [lsSub]) ⟨by omega, rfl, by omega, fun v' a b l => ?_, Or.inr ⟨v, v0, hv, hq, rfl⟩⟩
                    by_cases hv' : v' = v
                    · subst hv'
                      exact Int.le_refl _
                    · have := hmin v' a (by omega) l
                      omega
                · rw [if_neg hq]
                  refine s_istore_9_8 (q := 107) dX12_laysErrata_105 rfl rfl rfl ?_
                  refine g_iload (q := 109) dX12_laysErrata_107 rfl rfl ?_
                  refine g_iload (q := 111) dX12_laysErrata_109 rfl rfl ?_
                  refine g_icmp_ge (q := 114) (tg := 119) dX12_laysErrata_111 (by decide) rfl (fun c_111 => ?_) (fun c_111 => ?_)
                  · refine g_iload (q := 121) dX12_laysErrata_119 rfl rfl ?_
                    refine s_istore_9_6 (q := 123) dX12_laysErrata_121 rfl rfl rfl ?_
                    refine s_iinc_9_7 (q := 126) dX12_laysErrata_123 rfl rfl rfl ?_
                    refine g_goto (q := 87) dX12_laysErrata_126 (by decide) ?_
                    refine k2 w _ _ (by simp [lsSub]) ⟨by omega, rfl, hw, fun v' a b l => ?_, hor⟩
                    by_cases hv' : v' = v
                    · subst hv'
                      exact absurd l hq
                    · exact hmin v' a (by omega) l
                  · exact absurd c_111 (by unfold w32; omega)
            · rintro w c2 ⟨-, hc, hw, hmin, hor⟩
              subst hc
              have hval := eW_min hB (show k < n by omega) hw.2 (fun v a b l => hmin v a b l) hor
              refine g_iload (q := 89) dX12_laysErrata_87 rfl rfl ?_
              refine g_bipush (q := 91) dX12_laysErrata_89 (by decide +kernel) rfl ?_
              refine g_icmp_ge (q := 94) (tg := 129) dX12_laysErrata_91 (by decide) rfl (fun c_91 => ?_) (fun c_91 => ?_)
              · refine g_aload_n (q := 130) dX12_laysErrata_129 rfl rfl ?_
                refine g_getA (q := 133) (kI := 27) fX12_60 (by first | assumption | exact S.at _ rfl) dX12_laysErrata_130 rfl rfl (by first | assumption | exact L.at _ _ rfl | exact LK.at (by assumption) _ _ rfl | ((repeat first | rewrite [wr_na (by decide)] | rewrite [wr_nk (by decide)] | rewrite [wa_na (by decide)]); first | assumption | exact LK.at (by assumption) _ _ rfl) | exact rfl) ?_
                refine g_sipush (q := 136) dX12_laysErrata_133 (by decide +kernel) rfl ?_
                refine g_iload (q := 138) dX12_laysErrata_136 rfl rfl ?_
                refine g_imul (q := 139) dX12_laysErrata_138 rfl ?_
                refine g_iload (q := 141) dX12_laysErrata_139 rfl rfl ?_
                refine g_iadd (q := 142) dX12_laysErrata_141 rfl ?_
                refine g_iload (q := 144) dX12_laysErrata_142 rfl rfl ?_
                refine g_iastore (q := 145) (by first | assumption | exact S.at _ rfl) (by omega) (by omega) (by omega) dX12_laysErrata_144 rfl ?_
                refine s_iinc_9_5 (q := 148) dX12_laysErrata_145 rfl rfl rfl ?_
                refine g_goto (q := 71) dX12_laysErrata_148 (by decide) ?_
                refine kk _ _ (by simp [lsSub]) ⟨by omega, e.wr (by decide), fun j a b y y0 y1 => ?_, fun y a b => ?_⟩
                · rw [wr_nk (by omega)]
                  exact W j a b y y0 y1
                · by_cases hyx : y = x
                  · subst hyx
                    rw [wr_eq, hval]
                  · rw [wr_nk (by omega)]
                    exact hy y a (by omega)
              · exact absurd c_91 (by decide)
        · rintro c ⟨-, e, W, hy⟩
          refine g_iload (q := 73) dX12_laysErrata_71 rfl rfl ?_
          refine g_sipush (q := 76) dX12_laysErrata_73 (by decide +kernel) rfl ?_
          refine g_icmp_ge (q := 79) (tg := 151) dX12_laysErrata_76 (by decide) rfl (fun c_76 => ?_) (fun c_76 => ?_)
          · refine s_iinc_9_4 (q := 154) dX12_laysErrata_151 rfl rfl rfl ?_
            refine g_goto (q := 63) dX12_laysErrata_154 (by decide) ?_
            have := ih c (some (.inl 700)) none none none (by omega) e (fun j a b y y0 y1 => by
              by_cases hj : j = k
              · subst hj
                exact hy y y0 y1
              · exact W j (by omega) b y y0 y1)
            rw [show (k : Int) - 1 = (k : Int) + -1 by omega] at this
            exact this
          · exact absurd c_76 (by decide)
  refine g_aload_n (q := 5) dX12_laysErrata_4 rfl rfl ?_
  refine g_getA (q := 8) (kI := 33) fX12_78 (by first | assumption | exact S.at _ rfl) dX12_laysErrata_5 rfl rfl (by first | assumption | exact L.at _ _ rfl | exact LK.at (by assumption) _ _ rfl | ((repeat first | rewrite [wr_na (by decide)] | rewrite [wr_nk (by decide)] | rewrite [wa_na (by decide)]); first | assumption | exact LK.at (by assumption) _ _ rfl) | exact rfl) ?_
  refine g_iload_n (q := 9) dX12_laysErrata_8 rfl rfl ?_
  have ht4 := h1
  refine g_iaload (q := 10) (by first | assumption | exact S.at _ rfl) (by omega) (by omega) (by omega) dX12_laysErrata_9 rfl ?_
  rw [h112]
  refine s_istore_n_9_3 (q := 11) dX12_laysErrata_10 rfl rfl rfl ?_
  refine g_iconst (q := 12) dX12_laysErrata_11 rfl ?_
  refine s_istore_9_4 (q := 14) dX12_laysErrata_12 rfl rfl rfl ?_
  refine g_for (fun x => [some (.inr (.inr 92)), some (.inl t), some (.inl tone), some (.inl n), some (.inl x), none, none, none, none]) (fun x c => 0 ≤ x ∧ eqBut [106] c1 c ∧ ∀ y, 0 ≤ y → y < x → c 106 (700 * n + y) = nv (eW 0 β mk tone tl n 0 y)) 700 ?_ ?_ (i := 0) (by omega) ⟨by omega, eqBut.rf, fun y _ _ => by omega⟩ (by simp [lsSub])
  · rintro x c hx ⟨x0, e, hy⟩ kk
    have L2 : LK c := L1.eb e rfl
    have D2 : LD c β mk (-1) (-1) 9 := D.eq (e 100 (by decide)) (e 103 (by decide))
    have nx : ∀ v, v = nv (eW 0 β mk tone tl n 0 x) → G (mkK YX12_laysErrata (d + 6) sh sh Po) 51 [some (.inr (.inr 92)), some (.inl t), some (.inl tone), some (.inl n), some (.inl x), none, none, none, none] [.inl v, .inl (700 * n + x), .inr (.inr 106)] sh c := by
      intro v hv
      refine g_iastore (q := 52) (by first | assumption | exact S.at _ rfl) (by omega) (by omega) (by omega) dX12_laysErrata_51 rfl ?_
      refine s_iinc_9_4 (q := 55) dX12_laysErrata_52 rfl rfl rfl ?_
      refine g_goto (q := 14) dX12_laysErrata_55 (by decide) ?_
      refine kk _ _ (by simp [lsSub]) ⟨by omega, e.wr (by decide), fun y a b => ?_⟩
      by_cases hyx : y = x
      · subst hyx
        rw [wr_eq, hv]
      · rw [wr_nk (by omega)]
        exact hy y a (by omega)
    refine g_iload (q := 16) dX12_laysErrata_14 rfl rfl ?_
    refine g_sipush (q := 19) dX12_laysErrata_16 (by decide +kernel) rfl ?_
    refine g_icmp_ge (q := 22) (tg := 58) dX12_laysErrata_19 (by decide) rfl (fun c_19 => ?_) (fun c_19 => ?_)
    · exact absurd c_19 (by unfold w32; omega)
    · refine g_aload_n (q := 23) dX12_laysErrata_22 rfl rfl ?_
      refine g_getA (q := 26) (kI := 27) fX12_60 (by first | assumption | exact S.at _ rfl) dX12_laysErrata_23 rfl rfl (by first | assumption | exact L.at _ _ rfl | exact LK.at (by assumption) _ _ rfl | ((repeat first | rewrite [wr_na (by decide)] | rewrite [wr_nk (by decide)] | rewrite [wa_na (by decide)]); first | assumption | exact LK.at (by assumption) _ _ rfl) | exact rfl) ?_
      refine g_sipush (q := 29) dX12_laysErrata_26 (by decide +kernel) rfl ?_
      refine g_iload_n (q := 30) dX12_laysErrata_29 rfl rfl ?_
      refine g_imul (q := 31) dX12_laysErrata_30 rfl ?_
      refine g_iload (q := 33) dX12_laysErrata_31 rfl rfl ?_
      refine g_iadd (q := 34) dX12_laysErrata_33 rfl ?_
      refine g_aload_n (q := 35) dX12_laysErrata_34 rfl rfl ?_
      refine g_iload (q := 37) dX12_laysErrata_35 rfl rfl ?_
      refine g_iload_n (q := 38) dX12_laysErrata_37 rfl rfl ?_
      refine g_callV (q := 41) lX12_335 mX12_isEnd nX12_isEnd rfl (tw_isEnd (d + 4) sh _ S L2 D2 x0 hx t0 t1) (by first | assumption | exact S.at _ rfl) rfl rfl shLe.rf (rmOk.mk (by omega) (by first | exact shLe.rf | assumption)) (Nat.le_of_ble_eq_true rfl) dX12_laysErrata_38 rfl rfl (kI fun r_ c_ hp => ?_)
      obtain ⟨hr, hq⟩ := hp
      replace hr := hr.symm
      replace hq := hq.symm
      subst hr hq
      refine g_if_eq (q := 44) (tg := 48) dX12_laysErrata_41 (by decide) rfl (fun c_41 => ?_) (fun c_41 => ?_)
      · refine g_ldcw (q := 51) dX12_laysErrata_48 kX12_334 rfl ?_
        refine nx _ ?_
        unfold eW
        rw [if_neg (wb0.mp c_41)]
        rfl
      · refine g_iconst (q := 45) dX12_laysErrata_44 rfl ?_
        refine g_goto (q := 51) dX12_laysErrata_45 (by decide) ?_
        refine nx _ ?_
        unfold eW
        rw [if_pos (wbn.mp c_41)]
        rfl
  · rintro c ⟨-, e, hy⟩
    refine g_iload (q := 16) dX12_laysErrata_14 rfl rfl ?_
    refine g_sipush (q := 19) dX12_laysErrata_16 (by decide +kernel) rfl ?_
    refine g_icmp_ge (q := 22) (tg := 58) dX12_laysErrata_19 (by decide) rfl (fun c_19 => ?_) (fun c_19 => ?_)
    · refine g_iload_n (q := 59) dX12_laysErrata_58 rfl rfl ?_
      refine g_iconst (q := 60) dX12_laysErrata_59 rfl ?_
      refine g_isub (q := 61) dX12_laysErrata_60 rfl ?_
      refine s_istore_9_4 (q := 63) dX12_laysErrata_61 rfl rfl rfl ?_
      refine down n c _ _ _ _ (Nat.le_refl _) e (fun j a b y y0 y1 => ?_)
      have : j = n := by omega
      subst this
      rw [Nat.sub_self]
      exact hy y y0 y1
    · exact absurd c_19 (by decide)
def errNo (β : Bk) (sz : Int → Int) (vl : Int → Int → Int) (t tone r : Int) : Prop := ∃ no, rowR β sz vl t 12 0 no ∧ ((no ≠ 0 ∧ r = no) ∨ (no = 0 ∧ r = if isTn tone then 0 else -3))
theorem errNo.rg {t tone r : Int} (h : errNo β sz vl t tone r) : -7 ≤ r ∧ r ≤ 0 := by
  obtain ⟨no, h1, h2 | h2⟩ := h
  · have := h1.rg
    omega
  · have := h2.2
    split at this <;> omega
theorem errNo.zero {t tone : Int} (h : errNo β sz vl t tone 0) : rowOk β sz vl t 12 0 ∧ isTn tone := by
  obtain ⟨no, h1, h2 | ⟨h2, h3⟩⟩ := h
  · omega
  · subst h2
    refine ⟨h1.zero, ?_⟩
    apply Decidable.byContradiction
    intro z
    rw [if_neg z] at h3
    omega
theorem errNo.uni {t tone r r2 : Int} (h : errNo β sz vl t tone r) (h2 : errNo β sz vl t tone r2) : r = r2 := by
  obtain ⟨no, h1, h3⟩ := h
  obtain ⟨no2, h4, h5⟩ := h2
  have := h1.uni h4
  subst this
  rcases h3 with ⟨a, b⟩ | ⟨a, b⟩ <;> rcases h5 with ⟨a', b'⟩ | ⟨a', b'⟩
  · omega
  · exact absurd a' a
  · exact absurd a a'
  · rw [b, b']
theorem tw_noErrata {t tone : Int} (S : SH sh) (M : MD ct β mk st) (T : MT ct sz bt vl) (ht : i32 t) (hto : i32 tone) : Mt YX12_noErrata (d + 4) [.inr (.inr 92), .inl t, .inl tone] sh sh ct (pI fun r c => errNo β sz vl t tone r ∧ c = ct) := by
  refine Mt.of rfl (Nat.le_of_ble_eq_true rfl) ?_
  show G _ 0 [some (.inr (.inr 92)), some (.inl t), some (.inl tone), none] [] sh ct
  refine g_aload_n (q := 1) dX12_noErrata_0 rfl rfl ?_
  refine g_iload_n (q := 2) dX12_noErrata_1 rfl rfl ?_
  refine g_bipush (q := 4) dX12_noErrata_2 (by decide +kernel) rfl ?_
  refine g_iconst (q := 5) dX12_noErrata_4 rfl ?_
  refine g_callV (q := 8) lX12_390 mX12_noRow nX12_noRow rfl (tw_noRow d sh _ S M T ht (by omega) (Or.inl rfl)) (by first | assumption | exact S.at _ rfl) rfl rfl shLe.rf (rmOk.mk (by omega) (by first | exact shLe.rf | assumption)) (Nat.le_of_ble_eq_true rfl) dX12_noErrata_5 rfl rfl (kI fun no c1 hp => ?_)
  obtain ⟨hno, rfl⟩ := hp
  have hng := hno.rg
  refine s_istore_n_4_3 (q := 9) dX12_noErrata_8 rfl rfl rfl ?_
  refine g_iload_n (q := 10) dX12_noErrata_9 rfl rfl ?_
  refine g_if_eq (q := 13) (tg := 17) dX12_noErrata_10 (by decide) rfl (fun c_10 => ?_) (fun c_10 => ?_)
  · refine g_iload_n (q := 18) dX12_noErrata_17 rfl rfl ?_
    refine g_callS (q := 21) lX12_358 mX12_isTone sX12_isTone rfl (tw_isTone (d + 2) sh _ hto) shLe.rf (rmOk.mk (by omega) (by first | exact shLe.rf | assumption)) (Nat.le_of_ble_eq_true rfl) dX12_noErrata_18 rfl rfl (kI fun r_18 s_18 hp => ?_)
    obtain ⟨hr, hq⟩ := hp
    replace hr := hr.symm
    replace hq := hq.symm
    subst hr hq
    refine g_if_eq (q := 24) (tg := 28) dX12_noErrata_21 (by decide) rfl (fun c_21 => ?_) (fun c_21 => ?_)
    · refine g_bipush (q := 30) dX12_noErrata_28 (by decide +kernel) rfl ?_
      refine g_ireturn dX12_noErrata_30 rfl ?_
      refine ⟨_, rfl, ⟨no, hno, ?_⟩, rfl⟩; first | exact Or.inl ⟨fun z => c_10 (by rw [z]; rfl), rfl⟩ | (refine Or.inr ⟨by unfold w32 at c_10; omega, ?_⟩; first | rw [if_pos (wbn.mp c_21)] | rw [if_neg (wb0.mp c_21)])
    · refine g_iconst (q := 25) dX12_noErrata_24 rfl ?_
      refine g_goto (q := 30) dX12_noErrata_25 (by decide) ?_
      refine g_ireturn dX12_noErrata_30 rfl ?_
      refine ⟨_, rfl, ⟨no, hno, ?_⟩, rfl⟩; first | exact Or.inl ⟨fun z => c_10 (by rw [z]; rfl), rfl⟩ | (refine Or.inr ⟨by unfold w32 at c_10; omega, ?_⟩; first | rw [if_pos (wbn.mp c_21)] | rw [if_neg (wb0.mp c_21)])
  · refine g_iload_n (q := 14) dX12_noErrata_13 rfl rfl ?_
    refine g_goto (q := 30) dX12_noErrata_14 (by decide) ?_
    refine g_ireturn dX12_noErrata_30 rfl ?_
    refine ⟨_, rfl, ⟨no, hno, ?_⟩, rfl⟩; first | exact Or.inl ⟨fun z => c_10 (by rw [z]; rfl), rfl⟩ | (refine Or.inr ⟨by unfold w32 at c_10; omega, ?_⟩; first | rw [if_pos (wbn.mp c_21)] | rw [if_neg (wb0.mp c_21)])
theorem tw_errata {t tone : Int} {tl : Int → Int} (S : SH sh) (M : MD ct β mk st) (T : MT ct sz bt vl) (ht : i32 t) (hto : i32 tone) (htl : told sz vl t tl) : Mt YX12_errata (d + 7) [.inr (.inr 92), .inl t, .inl tone] sh sh ct (pI fun r c => (∃ no, errNo β sz vl t tone no ∧ ((no ≠ 0 ∧ r = no) ∨ (no = 0 ∧ r = errV β mk tone tl (sz t).toNat st))) ∧ mF ct c) := by
  have hB := M.B
  generalize hP : (pI fun r c => (∃ no, errNo β sz vl t tone no ∧ ((no ≠ 0 ∧ r = no) ∨ (no = 0 ∧ r = errV β mk tone tl (sz t).toNat st))) ∧ mF ct c) = Po
  refine Mt.of rfl (Nat.le_of_ble_eq_true rfl) ?_
  show G _ 0 [some (.inr (.inr 92)), some (.inl t), some (.inl tone), none] [] sh ct
  refine g_aload_n (q := 1) dX12_errata_0 rfl rfl ?_
  refine g_iconst (q := 2) dX12_errata_1 rfl ?_
  refine g_putI (q := 5) (kI := 0) fX12_1 (by first | assumption | exact S.at _ rfl) dX12_errata_2 rfl rfl ?_
  refine g_aload_n (q := 6) dX12_errata_5 rfl rfl ?_
  refine g_iload_n (q := 7) dX12_errata_6 rfl rfl ?_
  refine g_iload_n (q := 8) dX12_errata_7 rfl rfl ?_
  refine g_callV (q := 11) lX12_400 mX12_noErrata nX12_noErrata rfl (tw_noErrata d sh _ S (M.mf mF.th) (T.mf mF.th) ht hto) (by first | assumption | exact S.at _ rfl) rfl rfl shLe.rf (rmOk.mk (by omega) (by first | exact shLe.rf | assumption)) (Nat.le_of_ble_eq_true rfl) dX12_errata_8 rfl rfl (kI fun no c1 hp => ?_)
  obtain ⟨hno, rfl⟩ := hp
  have hng := hno.rg
  refine s_istore_n_4_3 (q := 12) dX12_errata_11 rfl rfl rfl ?_
  refine g_iload_n (q := 13) dX12_errata_12 rfl rfl ?_
  refine g_if_eq (q := 16) (tg := 20) dX12_errata_13 (by decide) rfl (fun c_13 => ?_) (fun c_13 => ?_)
  · have h0 : no = 0 := by unfold w32 at c_13; omega
    subst h0
    obtain ⟨hrow, htn⟩ := hno.zero
    have h2 := hrow.2.1
    have R := hrow.row _ hB (T.mf (mF.th (v := 0))) (show (((sz t).toNat : Nat) : Int) = sz t by omega) (fun i hi => htl i (by omega))
    refine g_aload_n (q := 21) dX12_errata_20 rfl rfl ?_
    refine g_iload_n (q := 22) dX12_errata_21 rfl rfl ?_
    refine g_iload_n (q := 23) dX12_errata_22 rfl rfl ?_
    refine g_callV (q := 26) lX12_403 mX12_laysErrata nX12_laysErrata rfl (tw_laysErrata d sh _ S (M.mf mF.th) R.1 (by omega) (by omega) htn.1 (by have := htn.2; omega)) (by first | assumption | exact S.at _ rfl) rfl rfl shLe.rf (rmOk.mk (by omega) (by first | exact shLe.rf | assumption)) (Nat.le_of_ble_eq_true rfl) dX12_errata_23 rfl rfl (kI fun r c2 hp => ?_)
    obtain ⟨hr, -, -, e2⟩ := hp
    refine g_ireturn dX12_errata_26 rfl ?_
    rw [← hP]
    exact ⟨_, rfl, ⟨0, hno, Or.inr ⟨rfl, hr⟩⟩, (mF.th (v := 0)).tr (mF.of e2 rfl)⟩
  · refine g_iload_n (q := 17) dX12_errata_16 rfl rfl ?_
    refine g_goto (q := 26) dX12_errata_17 (by decide) ?_
    refine g_ireturn dX12_errata_26 rfl ?_
    rw [← hP]
    exact ⟨_, rfl, ⟨no, hno, Or.inl ⟨fun z => c_13 (by rw [z]; rfl), rfl⟩⟩, mF.th⟩
end
