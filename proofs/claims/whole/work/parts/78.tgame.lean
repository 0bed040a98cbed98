/-! the reference: the game -/
def rG (f : Bool) : Int := if f = true then 107 else 108
theorem scG_ld {β : Bk} {mk : Int → Int} (hB : bkB β) {x y : Int} : y ∈ scG β mk x ↔ ∃ v, 0 ≤ v ∧ v < 60 ∧ ldP β mk (-1) (-1) 9 x v ∧ y = nxB β x (v / 10) (v % 10) := by
  unfold scG
  rw [List.mem_map]
  have e : alwN 0 β mk x 0 = msN β mk x := by
    unfold alwN
    rw [if_neg (by simp)]
  constructor
  · rintro ⟨k, hk, rfl⟩
    rw [← e] at hk
    obtain ⟨h1, h2⟩ := (br_ld hB x 0 k).mp hk
    obtain ⟨a1, a2, a3, a4⟩ := mnt_in h1
    exact ⟨mnt k, a1, a2, h2, by rw [a3, a4]⟩
  · rintro ⟨v, v0, v1, hl, rfl⟩
    obtain ⟨i, h1, rfl, h3, h4⟩ := ld_in hB v0 hl
    refine ⟨i, ?_, by rw [h3, h4]⟩
    rw [← e]
    exact (br_ld hB x 0 i).mpr ⟨h1, hl⟩
/-- what is behind, at least or at most -/
def bhV (a : Int → Int) (β : Bk) (mk : Int → Int) (x l r : Int) : Prop := (scG β mk x = [] ∧ r = 268435456) ∨ ∃ e, (∃ y ∈ scG β mk x, a y = e) ∧ (∀ y ∈ scG β mk x, (l = 1 → e ≤ a y) ∧ (l = 0 → a y ≤ e)) ∧ r = if 268435456 ≤ e then 268435456 else e + 1
theorem dX12_behindBy_0 : decode cX12_behindBy 0 = .ok (.iconst (-1), 1) := by decide +kernel
theorem dX12_behindBy_1 : decode cX12_behindBy 1 = .ok (.istore 4, 2) := by decide +kernel
theorem dX12_behindBy_3 : decode cX12_behindBy 3 = .ok (.iconst 0, 1) := by decide +kernel
theorem dX12_behindBy_4 : decode cX12_behindBy 4 = .ok (.istore 5, 2) := by decide +kernel
theorem dX12_behindBy_6 : decode cX12_behindBy 6 = .ok (.iload 5, 2) := by decide +kernel
theorem dX12_behindBy_8 : decode cX12_behindBy 8 = .ok (.bipush 60, 2) := by decide +kernel
theorem dX12_behindBy_10 : decode cX12_behindBy 10 = .ok (.if_icmp .ge 74, 3) := by decide +kernel
theorem dX12_behindBy_13 : decode cX12_behindBy 13 = .ok (.aload_n 0, 1) := by decide +kernel
theorem dX12_behindBy_14 : decode cX12_behindBy 14 = .ok (.getfield 40, 3) := by decide +kernel
theorem dX12_behindBy_17 : decode cX12_behindBy 17 = .ok (.bipush 100, 2) := by decide +kernel
theorem dX12_behindBy_19 : decode cX12_behindBy 19 = .ok (.iload_n 1, 1) := by decide +kernel
theorem dX12_behindBy_20 : decode cX12_behindBy 20 = .ok (.imul, 1) := by decide +kernel
theorem dX12_behindBy_21 : decode cX12_behindBy 21 = .ok (.iload 5, 2) := by decide +kernel
theorem dX12_behindBy_23 : decode cX12_behindBy 23 = .ok (.iadd, 1) := by decide +kernel
theorem dX12_behindBy_24 : decode cX12_behindBy 24 = .ok (.iaload, 1) := by decide +kernel
theorem dX12_behindBy_25 : decode cX12_behindBy 25 = .ok (.istore 6, 2) := by decide +kernel
theorem dX12_behindBy_27 : decode cX12_behindBy 27 = .ok (.iload 6, 2) := by decide +kernel
theorem dX12_behindBy_29 : decode cX12_behindBy 29 = .ok (.iconst (-1), 1) := by decide +kernel
theorem dX12_behindBy_30 : decode cX12_behindBy 30 = .ok (.if_icmp .ne 6, 3) := by decide +kernel
theorem dX12_behindBy_33 : decode cX12_behindBy 33 = .ok (.goto 45, 3) := by decide +kernel
theorem dX12_behindBy_36 : decode cX12_behindBy 36 = .ok (.iload 4, 2) := by decide +kernel
theorem dX12_behindBy_38 : decode cX12_behindBy 38 = .ok (.iconst (-1), 1) := by decide +kernel
theorem dX12_behindBy_39 : decode cX12_behindBy 39 = .ok (.if_icmp .eq 28, 3) := by decide +kernel
theorem dX12_behindBy_42 : decode cX12_behindBy 42 = .ok (.iload_n 3, 1) := by decide +kernel
theorem dX12_behindBy_43 : decode cX12_behindBy 43 = .ok (.ifCond .eq 15, 3) := by decide +kernel
theorem dX12_behindBy_46 : decode cX12_behindBy 46 = .ok (.aload_n 2, 1) := by decide +kernel
theorem dX12_behindBy_47 : decode cX12_behindBy 47 = .ok (.iload 6, 2) := by decide +kernel
theorem dX12_behindBy_49 : decode cX12_behindBy 49 = .ok (.iaload, 1) := by decide +kernel
theorem dX12_behindBy_50 : decode cX12_behindBy 50 = .ok (.iload 4, 2) := by decide +kernel
theorem dX12_behindBy_52 : decode cX12_behindBy 52 = .ok (.if_icmp .ge 22, 3) := by decide +kernel
theorem dX12_behindBy_55 : decode cX12_behindBy 55 = .ok (.goto 12, 3) := by decide +kernel
theorem dX12_behindBy_58 : decode cX12_behindBy 58 = .ok (.aload_n 2, 1) := by decide +kernel
theorem dX12_behindBy_59 : decode cX12_behindBy 59 = .ok (.iload 6, 2) := by decide +kernel
theorem dX12_behindBy_61 : decode cX12_behindBy 61 = .ok (.iaload, 1) := by decide +kernel
theorem dX12_behindBy_62 : decode cX12_behindBy 62 = .ok (.iload 4, 2) := by decide +kernel
theorem dX12_behindBy_64 : decode cX12_behindBy 64 = .ok (.if_icmp .le 10, 3) := by decide +kernel
theorem dX12_behindBy_67 : decode cX12_behindBy 67 = .ok (.aload_n 2, 1) := by decide +kernel
theorem dX12_behindBy_68 : decode cX12_behindBy 68 = .ok (.iload 6, 2) := by decide +kernel
theorem dX12_behindBy_70 : decode cX12_behindBy 70 = .ok (.iaload, 1) := by decide +kernel
theorem dX12_behindBy_71 : decode cX12_behindBy 71 = .ok (.goto 5, 3) := by decide +kernel
theorem dX12_behindBy_74 : decode cX12_behindBy 74 = .ok (.iload 4, 2) := by decide +kernel
theorem dX12_behindBy_76 : decode cX12_behindBy 76 = .ok (.istore 4, 2) := by decide +kernel
theorem dX12_behindBy_78 : decode cX12_behindBy 78 = .ok (.iinc 5 1, 3) := by decide +kernel
theorem dX12_behindBy_81 : decode cX12_behindBy 81 = .ok (.goto (-75), 3) := by decide +kernel
theorem dX12_behindBy_84 : decode cX12_behindBy 84 = .ok (.iload 4, 2) := by decide +kernel
theorem dX12_behindBy_86 : decode cX12_behindBy 86 = .ok (.iconst (-1), 1) := by decide +kernel
theorem dX12_behindBy_87 : decode cX12_behindBy 87 = .ok (.if_icmp .eq 11, 3) := by decide +kernel
theorem dX12_behindBy_90 : decode cX12_behindBy 90 = .ok (.iload 4, 2) := by decide +kernel
theorem dX12_behindBy_92 : decode cX12_behindBy 92 = .ok (.ldc_w 334, 3) := by decide +kernel
theorem dX12_behindBy_95 : decode cX12_behindBy 95 = .ok (.if_icmp .lt 9, 3) := by decide +kernel
theorem dX12_behindBy_98 : decode cX12_behindBy 98 = .ok (.ldc_w 334, 3) := by decide +kernel
theorem dX12_behindBy_101 : decode cX12_behindBy 101 = .ok (.goto 7, 3) := by decide +kernel
theorem dX12_behindBy_104 : decode cX12_behindBy 104 = .ok (.iload 4, 2) := by decide +kernel
theorem dX12_behindBy_106 : decode cX12_behindBy 106 = .ok (.iconst 1, 1) := by decide +kernel
theorem dX12_behindBy_107 : decode cX12_behindBy 107 = .ok (.iadd, 1) := by decide +kernel
theorem dX12_behindBy_108 : decode cX12_behindBy 108 = .ok (.ireturn, 1) := by decide +kernel
theorem dX12_laysGame_0 : decode cX12_laysGame 0 = .ok (.aload_n 0, 1) := by decide +kernel
theorem dX12_laysGame_1 : decode cX12_laysGame 1 = .ok (.invokevirtual 351, 3) := by decide +kernel
theorem dX12_laysGame_4 : decode cX12_laysGame 4 = .ok (.iconst 0, 1) := by decide +kernel
theorem dX12_laysGame_5 : decode cX12_laysGame 5 = .ok (.istore_n 2, 1) := by decide +kernel
theorem dX12_laysGame_6 : decode cX12_laysGame 6 = .ok (.iload_n 2, 1) := by decide +kernel
theorem dX12_laysGame_7 : decode cX12_laysGame 7 = .ok (.sipush 700, 3) := by decide +kernel
theorem dX12_laysGame_10 : decode cX12_laysGame 10 = .ok (.if_icmp .ge 43, 3) := by decide +kernel
theorem dX12_laysGame_13 : decode cX12_laysGame 13 = .ok (.aload_n 0, 1) := by decide +kernel
theorem dX12_laysGame_14 : decode cX12_laysGame 14 = .ok (.getfield 63, 3) := by decide +kernel
theorem dX12_laysGame_17 : decode cX12_laysGame 17 = .ok (.iload_n 2, 1) := by decide +kernel
theorem dX12_laysGame_18 : decode cX12_laysGame 18 = .ok (.aload_n 0, 1) := by decide +kernel
theorem dX12_laysGame_19 : decode cX12_laysGame 19 = .ok (.iload_n 2, 1) := by decide +kernel
theorem dX12_laysGame_20 : decode cX12_laysGame 20 = .ok (.iload_n 1, 1) := by decide +kernel
theorem dX12_laysGame_21 : decode cX12_laysGame 21 = .ok (.invokevirtual 335, 3) := by decide +kernel
theorem dX12_laysGame_24 : decode cX12_laysGame 24 = .ok (.ifCond .eq 7, 3) := by decide +kernel
theorem dX12_laysGame_27 : decode cX12_laysGame 27 = .ok (.iconst 0, 1) := by decide +kernel
theorem dX12_laysGame_28 : decode cX12_laysGame 28 = .ok (.goto 6, 3) := by decide +kernel
theorem dX12_laysGame_31 : decode cX12_laysGame 31 = .ok (.ldc_w 334, 3) := by decide +kernel
theorem dX12_laysGame_34 : decode cX12_laysGame 34 = .ok (.iastore, 1) := by decide +kernel
theorem dX12_laysGame_35 : decode cX12_laysGame 35 = .ok (.aload_n 0, 1) := by decide +kernel
theorem dX12_laysGame_36 : decode cX12_laysGame 36 = .ok (.getfield 66, 3) := by decide +kernel
theorem dX12_laysGame_39 : decode cX12_laysGame 39 = .ok (.iload_n 2, 1) := by decide +kernel
theorem dX12_laysGame_40 : decode cX12_laysGame 40 = .ok (.aload_n 0, 1) := by decide +kernel
theorem dX12_laysGame_41 : decode cX12_laysGame 41 = .ok (.getfield 63, 3) := by decide +kernel
theorem dX12_laysGame_44 : decode cX12_laysGame 44 = .ok (.iload_n 2, 1) := by decide +kernel
theorem dX12_laysGame_45 : decode cX12_laysGame 45 = .ok (.iaload, 1) := by decide +kernel
theorem dX12_laysGame_46 : decode cX12_laysGame 46 = .ok (.iastore, 1) := by decide +kernel
theorem dX12_laysGame_47 : decode cX12_laysGame 47 = .ok (.iinc 2 1, 3) := by decide +kernel
theorem dX12_laysGame_50 : decode cX12_laysGame 50 = .ok (.goto (-44), 3) := by decide +kernel
theorem dX12_laysGame_53 : decode cX12_laysGame 53 = .ok (.iconst 1, 1) := by decide +kernel
theorem dX12_laysGame_54 : decode cX12_laysGame 54 = .ok (.istore_n 2, 1) := by decide +kernel
theorem dX12_laysGame_55 : decode cX12_laysGame 55 = .ok (.iload_n 2, 1) := by decide +kernel
theorem dX12_laysGame_56 : decode cX12_laysGame 56 = .ok (.ifCond .eq 158, 3) := by decide +kernel
theorem dX12_laysGame_59 : decode cX12_laysGame 59 = .ok (.iconst 0, 1) := by decide +kernel
theorem dX12_laysGame_60 : decode cX12_laysGame 60 = .ok (.istore_n 2, 1) := by decide +kernel
theorem dX12_laysGame_61 : decode cX12_laysGame 61 = .ok (.iconst 0, 1) := by decide +kernel
theorem dX12_laysGame_62 : decode cX12_laysGame 62 = .ok (.istore_n 3, 1) := by decide +kernel
theorem dX12_laysGame_63 : decode cX12_laysGame 63 = .ok (.iload_n 3, 1) := by decide +kernel
theorem dX12_laysGame_64 : decode cX12_laysGame 64 = .ok (.sipush 700, 3) := by decide +kernel
theorem dX12_laysGame_67 : decode cX12_laysGame 67 = .ok (.if_icmp .ge 67, 3) := by decide +kernel
theorem dX12_laysGame_70 : decode cX12_laysGame 70 = .ok (.aload_n 0, 1) := by decide +kernel
theorem dX12_laysGame_71 : decode cX12_laysGame 71 = .ok (.getfield 69, 3) := by decide +kernel
theorem dX12_laysGame_74 : decode cX12_laysGame 74 = .ok (.iload_n 3, 1) := by decide +kernel
theorem dX12_laysGame_75 : decode cX12_laysGame 75 = .ok (.aload_n 0, 1) := by decide +kernel
theorem dX12_laysGame_76 : decode cX12_laysGame 76 = .ok (.getfield 63, 3) := by decide +kernel
theorem dX12_laysGame_79 : decode cX12_laysGame 79 = .ok (.iload_n 3, 1) := by decide +kernel
theorem dX12_laysGame_80 : decode cX12_laysGame 80 = .ok (.iaload, 1) := by decide +kernel
theorem dX12_laysGame_81 : decode cX12_laysGame 81 = .ok (.ifCond .ne 7, 3) := by decide +kernel
theorem dX12_laysGame_84 : decode cX12_laysGame 84 = .ok (.iconst 0, 1) := by decide +kernel
theorem dX12_laysGame_85 : decode cX12_laysGame 85 = .ok (.goto 13, 3) := by decide +kernel
theorem dX12_laysGame_88 : decode cX12_laysGame 88 = .ok (.aload_n 0, 1) := by decide +kernel
theorem dX12_laysGame_89 : decode cX12_laysGame 89 = .ok (.iload_n 3, 1) := by decide +kernel
theorem dX12_laysGame_90 : decode cX12_laysGame 90 = .ok (.aload_n 0, 1) := by decide +kernel
theorem dX12_laysGame_91 : decode cX12_laysGame 91 = .ok (.getfield 66, 3) := by decide +kernel
theorem dX12_laysGame_94 : decode cX12_laysGame 94 = .ok (.iconst 1, 1) := by decide +kernel
theorem dX12_laysGame_95 : decode cX12_laysGame 95 = .ok (.invokevirtual 423, 3) := by decide +kernel
theorem dX12_laysGame_98 : decode cX12_laysGame 98 = .ok (.iastore, 1) := by decide +kernel
theorem dX12_laysGame_99 : decode cX12_laysGame 99 = .ok (.aload_n 0, 1) := by decide +kernel
theorem dX12_laysGame_100 : decode cX12_laysGame 100 = .ok (.getfield 72, 3) := by decide +kernel
theorem dX12_laysGame_103 : decode cX12_laysGame 103 = .ok (.iload_n 3, 1) := by decide +kernel
theorem dX12_laysGame_104 : decode cX12_laysGame 104 = .ok (.aload_n 0, 1) := by decide +kernel
theorem dX12_laysGame_105 : decode cX12_laysGame 105 = .ok (.getfield 66, 3) := by decide +kernel
theorem dX12_laysGame_108 : decode cX12_laysGame 108 = .ok (.iload_n 3, 1) := by decide +kernel
theorem dX12_laysGame_109 : decode cX12_laysGame 109 = .ok (.iaload, 1) := by decide +kernel
theorem dX12_laysGame_110 : decode cX12_laysGame 110 = .ok (.ifCond .ne 7, 3) := by decide +kernel
theorem dX12_laysGame_113 : decode cX12_laysGame 113 = .ok (.iconst 0, 1) := by decide +kernel
theorem dX12_laysGame_114 : decode cX12_laysGame 114 = .ok (.goto 13, 3) := by decide +kernel
theorem dX12_laysGame_117 : decode cX12_laysGame 117 = .ok (.aload_n 0, 1) := by decide +kernel
theorem dX12_laysGame_118 : decode cX12_laysGame 118 = .ok (.iload_n 3, 1) := by decide +kernel
theorem dX12_laysGame_119 : decode cX12_laysGame 119 = .ok (.aload_n 0, 1) := by decide +kernel
theorem dX12_laysGame_120 : decode cX12_laysGame 120 = .ok (.getfield 63, 3) := by decide +kernel
theorem dX12_laysGame_123 : decode cX12_laysGame 123 = .ok (.iconst 0, 1) := by decide +kernel
theorem dX12_laysGame_124 : decode cX12_laysGame 124 = .ok (.invokevirtual 423, 3) := by decide +kernel
theorem dX12_laysGame_127 : decode cX12_laysGame 127 = .ok (.iastore, 1) := by decide +kernel
theorem dX12_laysGame_128 : decode cX12_laysGame 128 = .ok (.iinc 3 1, 3) := by decide +kernel
theorem dX12_laysGame_131 : decode cX12_laysGame 131 = .ok (.goto (-68), 3) := by decide +kernel
theorem dX12_laysGame_134 : decode cX12_laysGame 134 = .ok (.iconst 0, 1) := by decide +kernel
theorem dX12_laysGame_135 : decode cX12_laysGame 135 = .ok (.istore_n 3, 1) := by decide +kernel
theorem dX12_laysGame_136 : decode cX12_laysGame 136 = .ok (.iload_n 3, 1) := by decide +kernel
theorem dX12_laysGame_137 : decode cX12_laysGame 137 = .ok (.sipush 700, 3) := by decide +kernel
theorem dX12_laysGame_140 : decode cX12_laysGame 140 = .ok (.if_icmp .ge 71, 3) := by decide +kernel
theorem dX12_laysGame_143 : decode cX12_laysGame 143 = .ok (.iload_n 2, 1) := by decide +kernel
theorem dX12_laysGame_144 : decode cX12_laysGame 144 = .ok (.aload_n 0, 1) := by decide +kernel
theorem dX12_laysGame_145 : decode cX12_laysGame 145 = .ok (.getfield 69, 3) := by decide +kernel
theorem dX12_laysGame_148 : decode cX12_laysGame 148 = .ok (.iload_n 3, 1) := by decide +kernel
theorem dX12_laysGame_149 : decode cX12_laysGame 149 = .ok (.iaload, 1) := by decide +kernel
theorem dX12_laysGame_150 : decode cX12_laysGame 150 = .ok (.aload_n 0, 1) := by decide +kernel
theorem dX12_laysGame_151 : decode cX12_laysGame 151 = .ok (.getfield 63, 3) := by decide +kernel
theorem dX12_laysGame_154 : decode cX12_laysGame 154 = .ok (.iload_n 3, 1) := by decide +kernel
theorem dX12_laysGame_155 : decode cX12_laysGame 155 = .ok (.iaload, 1) := by decide +kernel
theorem dX12_laysGame_156 : decode cX12_laysGame 156 = .ok (.if_icmp .lt 18, 3) := by decide +kernel
theorem dX12_laysGame_159 : decode cX12_laysGame 159 = .ok (.aload_n 0, 1) := by decide +kernel
theorem dX12_laysGame_160 : decode cX12_laysGame 160 = .ok (.getfield 72, 3) := by decide +kernel
theorem dX12_laysGame_163 : decode cX12_laysGame 163 = .ok (.iload_n 3, 1) := by decide +kernel
theorem dX12_laysGame_164 : decode cX12_laysGame 164 = .ok (.iaload, 1) := by decide +kernel
theorem dX12_laysGame_165 : decode cX12_laysGame 165 = .ok (.aload_n 0, 1) := by decide +kernel
theorem dX12_laysGame_166 : decode cX12_laysGame 166 = .ok (.getfield 66, 3) := by decide +kernel
theorem dX12_laysGame_169 : decode cX12_laysGame 169 = .ok (.iload_n 3, 1) := by decide +kernel
theorem dX12_laysGame_170 : decode cX12_laysGame 170 = .ok (.iaload, 1) := by decide +kernel
theorem dX12_laysGame_171 : decode cX12_laysGame 171 = .ok (.if_icmp .ge 7, 3) := by decide +kernel
theorem dX12_laysGame_174 : decode cX12_laysGame 174 = .ok (.iconst 1, 1) := by decide +kernel
theorem dX12_laysGame_175 : decode cX12_laysGame 175 = .ok (.goto 4, 3) := by decide +kernel
theorem dX12_laysGame_178 : decode cX12_laysGame 178 = .ok (.iconst 0, 1) := by decide +kernel
theorem dX12_laysGame_179 : decode cX12_laysGame 179 = .ok (.ior, 1) := by decide +kernel
theorem dX12_laysGame_180 : decode cX12_laysGame 180 = .ok (.istore_n 2, 1) := by decide +kernel
theorem dX12_laysGame_181 : decode cX12_laysGame 181 = .ok (.aload_n 0, 1) := by decide +kernel
theorem dX12_laysGame_182 : decode cX12_laysGame 182 = .ok (.getfield 63, 3) := by decide +kernel
theorem dX12_laysGame_185 : decode cX12_laysGame 185 = .ok (.iload_n 3, 1) := by decide +kernel
theorem dX12_laysGame_186 : decode cX12_laysGame 186 = .ok (.aload_n 0, 1) := by decide +kernel
theorem dX12_laysGame_187 : decode cX12_laysGame 187 = .ok (.getfield 69, 3) := by decide +kernel
theorem dX12_laysGame_190 : decode cX12_laysGame 190 = .ok (.iload_n 3, 1) := by decide +kernel
theorem dX12_laysGame_191 : decode cX12_laysGame 191 = .ok (.iaload, 1) := by decide +kernel
theorem dX12_laysGame_192 : decode cX12_laysGame 192 = .ok (.iastore, 1) := by decide +kernel
theorem dX12_laysGame_193 : decode cX12_laysGame 193 = .ok (.aload_n 0, 1) := by decide +kernel
theorem dX12_laysGame_194 : decode cX12_laysGame 194 = .ok (.getfield 66, 3) := by decide +kernel
theorem dX12_laysGame_197 : decode cX12_laysGame 197 = .ok (.iload_n 3, 1) := by decide +kernel
theorem dX12_laysGame_198 : decode cX12_laysGame 198 = .ok (.aload_n 0, 1) := by decide +kernel
theorem dX12_laysGame_199 : decode cX12_laysGame 199 = .ok (.getfield 72, 3) := by decide +kernel
theorem dX12_laysGame_202 : decode cX12_laysGame 202 = .ok (.iload_n 3, 1) := by decide +kernel
theorem dX12_laysGame_203 : decode cX12_laysGame 203 = .ok (.iaload, 1) := by decide +kernel
theorem dX12_laysGame_204 : decode cX12_laysGame 204 = .ok (.iastore, 1) := by decide +kernel
theorem dX12_laysGame_205 : decode cX12_laysGame 205 = .ok (.iinc 3 1, 3) := by decide +kernel
theorem dX12_laysGame_208 : decode cX12_laysGame 208 = .ok (.goto (-72), 3) := by decide +kernel
theorem dX12_laysGame_211 : decode cX12_laysGame 211 = .ok (.goto (-156), 3) := by decide +kernel
theorem dX12_laysGame_214 : decode cX12_laysGame 214 = .ok (.aload_n 0, 1) := by decide +kernel
theorem dX12_laysGame_215 : decode cX12_laysGame 215 = .ok (.getfield 63, 3) := by decide +kernel
theorem dX12_laysGame_218 : decode cX12_laysGame 218 = .ok (.aload_n 0, 1) := by decide +kernel
theorem dX12_laysGame_219 : decode cX12_laysGame 219 = .ok (.invokevirtual 251, 3) := by decide +kernel
theorem dX12_laysGame_222 : decode cX12_laysGame 222 = .ok (.iaload, 1) := by decide +kernel
theorem dX12_laysGame_223 : decode cX12_laysGame 223 = .ok (.istore_n 3, 1) := by decide +kernel
theorem dX12_laysGame_224 : decode cX12_laysGame 224 = .ok (.iload_n 3, 1) := by decide +kernel
theorem dX12_laysGame_225 : decode cX12_laysGame 225 = .ok (.ldc_w 334, 3) := by decide +kernel
theorem dX12_laysGame_228 : decode cX12_laysGame 228 = .ok (.if_icmp .lt 7, 3) := by decide +kernel
theorem dX12_laysGame_231 : decode cX12_laysGame 231 = .ok (.iconst (-1), 1) := by decide +kernel
theorem dX12_laysGame_232 : decode cX12_laysGame 232 = .ok (.goto 4, 3) := by decide +kernel
theorem dX12_laysGame_235 : decode cX12_laysGame 235 = .ok (.iload_n 3, 1) := by decide +kernel
theorem dX12_laysGame_236 : decode cX12_laysGame 236 = .ok (.ireturn, 1) := by decide +kernel
theorem dX12_forces_0 : decode cX12_forces 0 = .ok (.aload_n 0, 1) := by decide +kernel
theorem dX12_forces_1 : decode cX12_forces 1 = .ok (.iconst 0, 1) := by decide +kernel
theorem dX12_forces_2 : decode cX12_forces 2 = .ok (.putfield 1, 3) := by decide +kernel
theorem dX12_forces_5 : decode cX12_forces 5 = .ok (.iload_n 1, 1) := by decide +kernel
theorem dX12_forces_6 : decode cX12_forces 6 = .ok (.invokestatic 358, 3) := by decide +kernel
theorem dX12_forces_9 : decode cX12_forces 9 = .ok (.ifCond .eq 11, 3) := by decide +kernel
theorem dX12_forces_12 : decode cX12_forces 12 = .ok (.aload_n 0, 1) := by decide +kernel
theorem dX12_forces_13 : decode cX12_forces 13 = .ok (.iload_n 1, 1) := by decide +kernel
theorem dX12_forces_14 : decode cX12_forces 14 = .ok (.invokevirtual 427, 3) := by decide +kernel
theorem dX12_forces_17 : decode cX12_forces 17 = .ok (.goto 5, 3) := by decide +kernel
theorem dX12_forces_20 : decode cX12_forces 20 = .ok (.bipush (-3), 2) := by decide +kernel
theorem dX12_forces_22 : decode cX12_forces 22 = .ok (.ireturn, 1) := by decide +kernel
theorem dX12_best_0 : decode cX12_best 0 = .ok (.aload_n 0, 1) := by decide +kernel
theorem dX12_best_1 : decode cX12_best 1 = .ok (.iconst 0, 1) := by decide +kernel
theorem dX12_best_2 : decode cX12_best 2 = .ok (.putfield 1, 3) := by decide +kernel
theorem dX12_best_5 : decode cX12_best 5 = .ok (.iload_n 1, 1) := by decide +kernel
theorem dX12_best_6 : decode cX12_best 6 = .ok (.invokestatic 358, 3) := by decide +kernel
theorem dX12_best_9 : decode cX12_best 9 = .ok (.ifCond .ne 6, 3) := by decide +kernel
theorem dX12_best_12 : decode cX12_best 12 = .ok (.bipush (-3), 2) := by decide +kernel
theorem dX12_best_14 : decode cX12_best 14 = .ok (.ireturn, 1) := by decide +kernel
theorem dX12_best_15 : decode cX12_best 15 = .ok (.aload_n 0, 1) := by decide +kernel
theorem dX12_best_16 : decode cX12_best 16 = .ok (.iload_n 1, 1) := by decide +kernel
theorem dX12_best_17 : decode cX12_best 17 = .ok (.invokevirtual 427, 3) := by decide +kernel
theorem dX12_best_20 : decode cX12_best 20 = .ok (.istore_n 2, 1) := by decide +kernel
theorem dX12_best_21 : decode cX12_best 21 = .ok (.iload_n 2, 1) := by decide +kernel
theorem dX12_best_22 : decode cX12_best 22 = .ok (.ifCond .gt 5, 3) := by decide +kernel
theorem dX12_best_25 : decode cX12_best 25 = .ok (.iconst (-1), 1) := by decide +kernel
theorem dX12_best_26 : decode cX12_best 26 = .ok (.ireturn, 1) := by decide +kernel
theorem dX12_best_27 : decode cX12_best 27 = .ok (.iconst 0, 1) := by decide +kernel
theorem dX12_best_28 : decode cX12_best 28 = .ok (.istore_n 3, 1) := by decide +kernel
theorem dX12_best_29 : decode cX12_best 29 = .ok (.aload_n 0, 1) := by decide +kernel
theorem dX12_best_30 : decode cX12_best 30 = .ok (.getfield 40, 3) := by decide +kernel
theorem dX12_best_33 : decode cX12_best 33 = .ok (.bipush 100, 2) := by decide +kernel
theorem dX12_best_35 : decode cX12_best 35 = .ok (.aload_n 0, 1) := by decide +kernel
theorem dX12_best_36 : decode cX12_best 36 = .ok (.invokevirtual 251, 3) := by decide +kernel
theorem dX12_best_39 : decode cX12_best 39 = .ok (.imul, 1) := by decide +kernel
theorem dX12_best_40 : decode cX12_best 40 = .ok (.iload_n 3, 1) := by decide +kernel
theorem dX12_best_41 : decode cX12_best 41 = .ok (.iadd, 1) := by decide +kernel
theorem dX12_best_42 : decode cX12_best 42 = .ok (.iaload, 1) := by decide +kernel
theorem dX12_best_43 : decode cX12_best 43 = .ok (.iconst (-1), 1) := by decide +kernel
theorem dX12_best_44 : decode cX12_best 44 = .ok (.if_icmp .eq 28, 3) := by decide +kernel
theorem dX12_best_47 : decode cX12_best 47 = .ok (.aload_n 0, 1) := by decide +kernel
theorem dX12_best_48 : decode cX12_best 48 = .ok (.getfield 66, 3) := by decide +kernel
theorem dX12_best_51 : decode cX12_best 51 = .ok (.aload_n 0, 1) := by decide +kernel
theorem dX12_best_52 : decode cX12_best 52 = .ok (.getfield 40, 3) := by decide +kernel
theorem dX12_best_55 : decode cX12_best 55 = .ok (.bipush 100, 2) := by decide +kernel
theorem dX12_best_57 : decode cX12_best 57 = .ok (.aload_n 0, 1) := by decide +kernel
theorem dX12_best_58 : decode cX12_best 58 = .ok (.invokevirtual 251, 3) := by decide +kernel
theorem dX12_best_61 : decode cX12_best 61 = .ok (.imul, 1) := by decide +kernel
theorem dX12_best_62 : decode cX12_best 62 = .ok (.iload_n 3, 1) := by decide +kernel
theorem dX12_best_63 : decode cX12_best 63 = .ok (.iadd, 1) := by decide +kernel
theorem dX12_best_64 : decode cX12_best 64 = .ok (.iaload, 1) := by decide +kernel
theorem dX12_best_65 : decode cX12_best 65 = .ok (.iaload, 1) := by decide +kernel
theorem dX12_best_66 : decode cX12_best 66 = .ok (.iload_n 2, 1) := by decide +kernel
theorem dX12_best_67 : decode cX12_best 67 = .ok (.iconst 1, 1) := by decide +kernel
theorem dX12_best_68 : decode cX12_best 68 = .ok (.isub, 1) := by decide +kernel
theorem dX12_best_69 : decode cX12_best 69 = .ok (.if_icmp .eq 9, 3) := by decide +kernel
theorem dX12_best_72 : decode cX12_best 72 = .ok (.iinc 3 1, 3) := by decide +kernel
theorem dX12_best_75 : decode cX12_best 75 = .ok (.goto (-46), 3) := by decide +kernel
theorem dX12_best_78 : decode cX12_best 78 = .ok (.iload_n 3, 1) := by decide +kernel
theorem dX12_best_79 : decode cX12_best 79 = .ok (.ireturn, 1) := by decide +kernel
theorem dX12_power_0 : decode cX12_power 0 = .ok (.aload_n 0, 1) := by decide +kernel
theorem dX12_power_1 : decode cX12_power 1 = .ok (.iconst 0, 1) := by decide +kernel
theorem dX12_power_2 : decode cX12_power 2 = .ok (.putfield 1, 3) := by decide +kernel
theorem dX12_power_5 : decode cX12_power 5 = .ok (.iconst 0, 1) := by decide +kernel
theorem dX12_power_6 : decode cX12_power 6 = .ok (.istore_n 1, 1) := by decide +kernel
theorem dX12_power_7 : decode cX12_power 7 = .ok (.iconst 0, 1) := by decide +kernel
theorem dX12_power_8 : decode cX12_power 8 = .ok (.istore_n 2, 1) := by decide +kernel
theorem dX12_power_9 : decode cX12_power 9 = .ok (.iload_n 2, 1) := by decide +kernel
theorem dX12_power_10 : decode cX12_power 10 = .ok (.bipush 10, 2) := by decide +kernel
theorem dX12_power_12 : decode cX12_power 12 = .ok (.if_icmp .ge 28, 3) := by decide +kernel
theorem dX12_power_15 : decode cX12_power 15 = .ok (.iload_n 1, 1) := by decide +kernel
theorem dX12_power_16 : decode cX12_power 16 = .ok (.aload_n 0, 1) := by decide +kernel
theorem dX12_power_17 : decode cX12_power 17 = .ok (.iload_n 2, 1) := by decide +kernel
theorem dX12_power_18 : decode cX12_power 18 = .ok (.invokevirtual 427, 3) := by decide +kernel
theorem dX12_power_21 : decode cX12_power 21 = .ok (.iconst (-1), 1) := by decide +kernel
theorem dX12_power_22 : decode cX12_power 22 = .ok (.if_icmp .ne 7, 3) := by decide +kernel
theorem dX12_power_25 : decode cX12_power 25 = .ok (.iconst 0, 1) := by decide +kernel
theorem dX12_power_26 : decode cX12_power 26 = .ok (.goto 6, 3) := by decide +kernel
theorem dX12_power_29 : decode cX12_power 29 = .ok (.iconst 1, 1) := by decide +kernel
theorem dX12_power_30 : decode cX12_power 30 = .ok (.iload_n 2, 1) := by decide +kernel
theorem dX12_power_31 : decode cX12_power 31 = .ok (.ishl, 1) := by decide +kernel
theorem dX12_power_32 : decode cX12_power 32 = .ok (.ior, 1) := by decide +kernel
theorem dX12_power_33 : decode cX12_power 33 = .ok (.istore_n 1, 1) := by decide +kernel
theorem dX12_power_34 : decode cX12_power 34 = .ok (.iinc 2 1, 3) := by decide +kernel
theorem dX12_power_37 : decode cX12_power 37 = .ok (.goto (-28), 3) := by decide +kernel
theorem dX12_power_40 : decode cX12_power 40 = .ok (.iload_n 1, 1) := by decide +kernel
theorem dX12_power_41 : decode cX12_power 41 = .ok (.ireturn, 1) := by decide +kernel
section
variable (d : Nat) (sh : mbSh) (ct : mbCt) {β : Bk} {mk : Int → Int} {st : Int}
theorem tw_behindBy {x a l : Int} (S : SH sh) (L : LK ct) (D : LD ct β mk (-1) (-1) 9) (hB : bkB β) (x0 : 0 ≤ x) (x1 : x < 700) (ha : a = 107 ∨ a = 108) (hl : l = 0 ∨ l = 1) (hr : ∀ y, 0 ≤ y → y < 700 → 0 ≤ ct a y ∧ ct a y ≤ 268435456) : Mt YX12_behindBy d [.inr (.inr 92), .inl x, .inr (.inr a), .inl l] sh sh ct (pI fun r c => bhV (ct a) β mk x l r ∧ c = ct) := by
  have s100 : shA sh 100 = some (20, 70000) := S.at _ rfl
  have sa : shA sh a = some (20, 700) := by rcases ha with rfl | rfl <;> exact S.at _ rfl
  have hb2 := hB.2.2.1
  generalize hP : (pI fun r c => bhV (ct a) β mk x l r ∧ c = ct) = Po
  refine Mt.of rfl (Nat.le_of_ble_eq_true rfl) ?_
  show G _ 0 [some (.inr (.inr 92)), some (.inl x), some (.inr (.inr a)), some (.inl l), none, none, none] [] sh ct
  refine g_iconst (q := 1) dX12_behindBy_0 rfl ?_
  refine s_istore_7_4 (q := 3) dX12_behindBy_1 rfl rfl rfl ?_
  refine g_iconst (q := 4) dX12_behindBy_3 rfl ?_
  refine s_istore_7_5 (q := 6) dX12_behindBy_4 rfl rfl rfl ?_
  refine g_forA (α := Int) (fun v w => [some (.inr (.inr 92)), some (.inl x), some (.inr (.inr a)), some (.inl l), some (.inl w), some (.inl v), none]) (fun v w c => 0 ≤ v ∧ c = ct ∧ ((w = -1 ∧ ∀ u, 0 ≤ u → u < v → ¬ ldP β mk (-1) (-1) 9 x u) ∨ ((∃ u, 0 ≤ u ∧ u < 60 ∧ ldP β mk (-1) (-1) 9 x u ∧ ct a (nxB β x (u / 10) (u % 10)) = w) ∧ (0 ≤ w ∧ w ≤ 268435456) ∧ ∀ u, 0 ≤ u → u < v → ldP β mk (-1) (-1) 9 x u → (l = 1 → w ≤ ct a (nxB β x (u / 10) (u % 10))) ∧ (l = 0 → ct a (nxB β x (u / 10) (u % 10)) ≤ w)))) 60 ?_ ?_ (i := 0) (a := -1) (by omega) ⟨by omega, rfl, Or.inl ⟨rfl, fun u _ _ => by omega⟩⟩ (by simp [lsSub])
  · rintro v w c hv ⟨v0, hc, hI⟩ kk
    subst hc
    have hld := D.at x0 x1 v0 (by omega)
    have hp := ldV_p (β := β) (mk := mk) (qu := -1) (un := -1) (mo := 9) (x := x) v0
    refine g_iload (q := 8) dX12_behindBy_6 rfl rfl ?_
    refine g_bipush (q := 10) dX12_behindBy_8 (by decide +kernel) rfl ?_
    refine g_icmp_ge (q := 13) (tg := 84) dX12_behindBy_10 (by decide) rfl (fun c_10 => ?_) (fun c_10 => ?_)
    · exact absurd c_10 (by unfold w32; omega)
    · refine g_aload_n (q := 14) dX12_behindBy_13 rfl rfl ?_
      refine g_getA (q := 17) (kI := 21) fX12_40 (by first | assumption | exact S.at _ rfl) dX12_behindBy_14 rfl rfl (by first | assumption | exact L.at _ _ rfl | exact LK.at (by assumption) _ _ rfl | ((repeat first | rewrite [wr_na (by decide)] | rewrite [wr_nk (by decide)] | rewrite [wa_na (by decide)]); first | assumption | exact LK.at (by assumption) _ _ rfl) | exact rfl) ?_
      refine g_bipush (q := 19) dX12_behindBy_17 (by decide +kernel) rfl ?_
      refine g_iload_n (q := 20) dX12_behindBy_19 rfl rfl ?_
      refine g_imul (q := 21) dX12_behindBy_20 rfl ?_
      refine g_iload (q := 23) dX12_behindBy_21 rfl rfl ?_
      refine g_iadd (q := 24) dX12_behindBy_23 rfl ?_
      refine g_iaload (q := 25) (by first | assumption | exact S.at _ rfl) (by omega) (by omega) (by omega) dX12_behindBy_24 rfl ?_
      rw [hld]
      by_cases hq : ldP β mk (-1) (-1) 9 x v
      · rw [hp.2 hq]
        have hnx := nxB_in (β := β) (st := x) (m := v / 10) (s := v % 10) (by omega) (by have := hq.1.1; omega)
        have hrv := hr _ hnx.1 hnx.2
        have take : ((w = -1 ∧ ∀ u, 0 ≤ u → u < v → ¬ ldP β mk (-1) (-1) 9 x u) ∨ (∀ u, 0 ≤ u → u < v → ldP β mk (-1) (-1) 9 x u → (l = 1 → c a (nxB β x (v / 10) (v % 10)) ≤ c a (nxB β x (u / 10) (u % 10))) ∧ (l = 0 → c a (nxB β x (u / 10) (u % 10)) ≤ c a (nxB β x (v / 10) (v % 10))))) → ∀ o6, G (mkK YX12_behindBy d sh sh Po) 76 [some (.inr (.inr 92)), some (.inl x), some (.inr (.inr a)), some (.inl l), some (.inl w), some (.inl v), o6] [.inl (c a (nxB β x (v / 10) (v % 10)))] sh c := by
          intro h o6
          refine s_istore_7_4 (q := 78) dX12_behindBy_76 rfl rfl rfl ?_
          refine s_iinc_7_5 (q := 81) dX12_behindBy_78 rfl rfl rfl ?_
          refine g_goto (q := 6) dX12_behindBy_81 (by decide) ?_
          refine kk (c a (nxB β x (v / 10) (v % 10))) _ _ (by simp [lsSub]) ⟨by omega, rfl, Or.inr ⟨⟨v, v0, hv, hq, rfl⟩, hrv, fun u a0 a1 a2 => ?_⟩⟩
          by_cases hu : u = v
          · subst hu
            exact ⟨fun _ => Int.le_refl _, fun _ => Int.le_refl _⟩
          · rcases h with h | h
            · exact absurd a2 (h.2 u a0 (by omega))
            · exact h u a0 (by omega) a2
        have keep : w ≠ -1 → ((l = 1 → w ≤ c a (nxB β x (v / 10) (v % 10))) ∧ (l = 0 → c a (nxB β x (v / 10) (v % 10)) ≤ w)) → ∀ o6, G (mkK YX12_behindBy d sh sh Po) 74 [some (.inr (.inr 92)), some (.inl x), some (.inr (.inr a)), some (.inl l), some (.inl w), some (.inl v), o6] [] sh c := by
          intro hw h o6
          refine g_iload (q := 76) dX12_behindBy_74 rfl rfl ?_
          refine s_istore_7_4 (q := 78) dX12_behindBy_76 rfl rfl rfl ?_
          refine s_iinc_7_5 (q := 81) dX12_behindBy_78 rfl rfl rfl ?_
          refine g_goto (q := 6) dX12_behindBy_81 (by decide) ?_
          obtain ⟨g1, g2, g3⟩ := hI.resolve_left (fun z => hw z.1)
          refine kk w _ _ (by simp [lsSub]) ⟨by omega, rfl, Or.inr ⟨g1, g2, fun u a0 a1 a2 => ?_⟩⟩
          by_cases hu : u = v
          · subst hu
            exact h
          · exact g3 u a0 (by omega) a2
        have hw32 : w = -1 ∨ (0 ≤ w ∧ w ≤ 268435456) := by
          rcases hI with h | h
          · exact Or.inl h.1
          · exact Or.inr h.2.1
        refine s_istore_7_6 (q := 27) dX12_behindBy_25 rfl rfl rfl ?_
        refine g_iload (q := 29) dX12_behindBy_27 rfl rfl ?_
        refine g_iconst (q := 30) dX12_behindBy_29 rfl ?_
        refine g_icmp_ne (q := 33) (tg := 36) dX12_behindBy_30 (by decide) rfl (fun c_30 => ?_) (fun c_30 => ?_)
        · refine g_iload (q := 38) dX12_behindBy_36 rfl rfl ?_
          refine g_iconst (q := 39) dX12_behindBy_38 rfl ?_
          refine g_icmp_eq (q := 42) (tg := 67) dX12_behindBy_39 (by decide) rfl (fun c_39 => ?_) (fun c_39 => ?_)
          · have hw1 : w = -1 := by unfold w32 at c_39; omega
            refine g_aload_n (q := 68) dX12_behindBy_67 rfl rfl ?_
            refine g_iload (q := 70) dX12_behindBy_68 rfl rfl ?_
            refine g_iaload (q := 71) (by first | assumption | exact S.at _ rfl) (by omega) (by omega) (by omega) dX12_behindBy_70 rfl ?_
            refine g_goto (q := 76) dX12_behindBy_71 (by decide) ?_
            exact take (Or.inl (hI.resolve_right (fun z => by have := z.2.1; omega))) _
          · have hw1 : w ≠ -1 := fun z => c_39 (by rw [z])
            obtain ⟨g1, g2, g3⟩ := hI.resolve_left (fun z => hw1 z.1)
            refine g_iload_n (q := 43) dX12_behindBy_42 rfl rfl ?_
            refine g_if_eq (q := 46) (tg := 58) dX12_behindBy_43 (by decide) rfl (fun c_43 => ?_) (fun c_43 => ?_)
            · have hl0 : l = 0 := by
                rcases hl with h | h
                · exact h
                · rw [h] at c_43
                  exact absurd c_43 (by decide)
              refine g_aload_n (q := 59) dX12_behindBy_58 rfl rfl ?_
              refine g_iload (q := 61) dX12_behindBy_59 rfl rfl ?_
              refine g_iaload (q := 62) (by first | assumption | exact S.at _ rfl) (by omega) (by omega) (by omega) dX12_behindBy_61 rfl ?_
              refine g_iload (q := 64) dX12_behindBy_62 rfl rfl ?_
              refine g_icmp_le (q := 67) (tg := 74) dX12_behindBy_64 (by decide) rfl (fun c_64 => ?_) (fun c_64 => ?_)
              · exact keep hw1 ⟨fun z => by omega, fun _ => by unfold w32 at c_64; omega⟩ _
              · refine g_aload_n (q := 68) dX12_behindBy_67 rfl rfl ?_
                refine g_iload (q := 70) dX12_behindBy_68 rfl rfl ?_
                refine g_iaload (q := 71) (by first | assumption | exact S.at _ rfl) (by omega) (by omega) (by omega) dX12_behindBy_70 rfl ?_
                refine g_goto (q := 76) dX12_behindBy_71 (by decide) ?_
                refine take (Or.inr (fun u a0 a1 a2 => ⟨fun z => by omega, fun _ => ?_⟩)) _
                have := (g3 u a0 a1 a2).2 hl0
                unfold w32 at c_64
                omega
            · have hl1 : l = 1 := by
                rcases hl with h | h
                · rw [h] at c_43
                  exact absurd rfl c_43
                · exact h
              refine g_aload_n (q := 47) dX12_behindBy_46 rfl rfl ?_
              refine g_iload (q := 49) dX12_behindBy_47 rfl rfl ?_
              refine g_iaload (q := 50) (by first | assumption | exact S.at _ rfl) (by omega) (by omega) (by omega) dX12_behindBy_49 rfl ?_
              refine g_iload (q := 52) dX12_behindBy_50 rfl rfl ?_
              refine g_icmp_ge (q := 55) (tg := 74) dX12_behindBy_52 (by decide) rfl (fun c_52 => ?_) (fun c_52 => ?_)
              · exact keep hw1 ⟨fun _ => by unfold w32 at c_52; omega, fun z => by omega⟩ _
              · refine g_goto (q := 67) dX12_behindBy_55 (by decide) ?_
                refine g_aload_n (q := 68) dX12_behindBy_67 rfl rfl ?_
                refine g_iload (q := 70) dX12_behindBy_68 rfl rfl ?_
                refine g_iaload (q := 71) (by first | assumption | exact S.at _ rfl) (by omega) (by omega) (by omega) dX12_behindBy_70 rfl ?_
                refine g_goto (q := 76) dX12_behindBy_71 (by decide) ?_
                refine take (Or.inr (fun u a0 a1 a2 => ⟨fun _ => ?_, fun z => by omega⟩)) _
                have := (g3 u a0 a1 a2).1 hl1
                unfold w32 at c_52
                omega
        · exact absurd c_30 (by unfold w32; omega)
      · rw [hp.1.mpr hq]
        refine s_istore_7_6 (q := 27) dX12_behindBy_25 rfl rfl rfl ?_
        refine g_iload (q := 29) dX12_behindBy_27 rfl rfl ?_
        refine g_iconst (q := 30) dX12_behindBy_29 rfl ?_
        refine g_icmp_ne (q := 33) (tg := 36) dX12_behindBy_30 (by decide) rfl (fun c_30 => ?_) (fun c_30 => ?_)
        · exact absurd rfl c_30
        · refine g_goto (q := 78) dX12_behindBy_33 (by decide) ?_
          refine s_iinc_7_5 (q := 81) dX12_behindBy_78 rfl rfl rfl ?_
          refine g_goto (q := 6) dX12_behindBy_81 (by decide) ?_
          refine kk w _ _ (by simp [lsSub]) ⟨by omega, rfl, ?_⟩
          rcases hI with ⟨a1, a2⟩ | ⟨a1, a2, a3⟩
          · refine Or.inl ⟨a1, fun u u0 u1 => ?_⟩
            by_cases hu : u = v
            · subst hu
              exact hq
            · exact a2 u u0 (by omega)
          · refine Or.inr ⟨a1, a2, fun u u0 u1 u2 => ?_⟩
            by_cases hu : u = v
            · subst hu
              exact absurd u2 hq
            · exact a3 u u0 (by omega) u2
  · rintro w c ⟨-, hc, hI⟩
    subst hc
    have fin : ∀ r, bhV (c a) β mk x l r → Po (some (.inl r)) c := by
      intro r h
      rw [← hP]
      exact ⟨_, rfl, h, rfl⟩
    refine g_iload (q := 8) dX12_behindBy_6 rfl rfl ?_
    refine g_bipush (q := 10) dX12_behindBy_8 (by decide +kernel) rfl ?_
    refine g_icmp_ge (q := 13) (tg := 84) dX12_behindBy_10 (by decide) rfl (fun c_10 => ?_) (fun c_10 => ?_)
    · rcases hI with ⟨rfl, a2⟩ | ⟨⟨u, u0, u1, ul, ue⟩, a2, a3⟩
      · have hnil : scG β mk x = [] := by
          apply List.eq_nil_iff_forall_not_mem.mpr
          intro y hy
          obtain ⟨v, v0, v1, vl, -⟩ := (scG_ld hB).mp hy
          exact a2 v v0 v1 vl
        refine g_iload (q := 86) dX12_behindBy_84 rfl rfl ?_
        refine g_iconst (q := 87) dX12_behindBy_86 rfl ?_
        refine g_icmp_eq (q := 90) (tg := 98) dX12_behindBy_87 (by decide) rfl (fun c_87 => ?_) (fun c_87 => ?_)
        · refine g_ldcw (q := 101) dX12_behindBy_98 kX12_334 rfl ?_
          refine g_goto (q := 108) dX12_behindBy_101 (by decide) ?_
          refine g_ireturn dX12_behindBy_108 rfl ?_
          exact fin _ (Or.inl ⟨hnil, rfl⟩)
        · exact absurd rfl c_87
      · have hex : (∃ y ∈ scG β mk x, c a y = w) ∧ ∀ y ∈ scG β mk x, (l = 1 → w ≤ c a y) ∧ (l = 0 → c a y ≤ w) := by
          refine ⟨⟨_, (scG_ld hB).mpr ⟨u, u0, u1, ul, rfl⟩, ue⟩, fun y hy => ?_⟩
          obtain ⟨v, v0, v1, vl, rfl⟩ := (scG_ld hB).mp hy
          exact a3 v v0 v1 vl
        refine g_iload (q := 86) dX12_behindBy_84 rfl rfl ?_
        refine g_iconst (q := 87) dX12_behindBy_86 rfl ?_
        refine g_icmp_eq (q := 90) (tg := 98) dX12_behindBy_87 (by decide) rfl (fun c_87 => ?_) (fun c_87 => ?_)
        · exact absurd c_87 (by unfold w32; omega)
        · refine g_iload (q := 92) dX12_behindBy_90 rfl rfl ?_
          refine g_ldcw (q := 95) dX12_behindBy_92 kX12_334 rfl ?_
          refine g_icmp_lt (q := 98) (tg := 104) dX12_behindBy_95 (by decide) rfl (fun c_95 => ?_) (fun c_95 => ?_)
          · refine g_iload (q := 106) dX12_behindBy_104 rfl rfl ?_
            refine g_iconst (q := 107) dX12_behindBy_106 rfl ?_
            refine g_iadd (q := 108) dX12_behindBy_107 rfl ?_
            refine g_ireturn dX12_behindBy_108 rfl ?_
            exact fin _ (Or.inr ⟨w, hex.1, hex.2, by rw [if_neg (by unfold w32 at c_95; omega)]⟩)
          · refine g_ldcw (q := 101) dX12_behindBy_98 kX12_334 rfl ?_
            refine g_goto (q := 108) dX12_behindBy_101 (by decide) ?_
            refine g_ireturn dX12_behindBy_108 rfl ?_
            exact fin _ (Or.inr ⟨w, hex.1, hex.2, by rw [if_pos (by unfold w32 at c_95; omega)]⟩)
    · exact absurd c_10 (by decide)
/-- a round makes what is exact up to lv exact one further -/
theorem bh_first {a b : Int → Int} {tone x r : Int} {lv : Nat} (hl : lv < 50000) (h0 : exS (b x) (fun m => gP β mk tone true m x) lv) (hb : b x ≠ 0) (ha : ∀ y ∈ scG β mk x, exS (a y) (fun m => gP β mk tone false m y) lv) (h : bhV a β mk x 1 r) : exS r (fun m => gP β mk tone true m x) (lv + 1) := by
  have hen : ¬ gP β mk tone true 0 x := by
    rcases h0 with ⟨-, h⟩ | ⟨i, h1, h2, h3, h4⟩
    · exact h 0 (Nat.zero_le _)
    · by_cases hi : i = 0
      · subst hi
        exact absurd h2 hb
      · exact h4 0 (by omega)
  have hs : ∀ m, gP β mk tone true (m + 1) x ↔ ∃ y ∈ scG β mk x, gP β mk tone false m y := by
    intro m
    constructor
    · rintro (h | h)
      · exact absurd h hen
      · exact h
    · exact Or.inr
  rcases h with ⟨hn, rfl⟩ | ⟨e, ⟨y, hy, hye⟩, hall, rfl⟩
  · refine Or.inl ⟨rfl, fun m hm hg => ?_⟩
    match m, hg with
    | 0, hg => exact hen hg
    | m + 1, hg =>
      obtain ⟨y, hy, -⟩ := (hs m).mp hg
      rw [hn] at hy
      cases hy
  · by_cases he : 268435456 ≤ e
    · rw [if_pos he]
      refine Or.inl ⟨rfl, fun m hm hg => ?_⟩
      match m, hg with
      | 0, hg => exact hen hg
      | m + 1, hg =>
        obtain ⟨z, hz, hgz⟩ := (hs m).mp hg
        have := (hall z hz).1 rfl
        rcases ha z hz with ⟨-, g⟩ | ⟨i, g1, g2, -⟩
        · exact g m (by omega) hgz
        · omega
    · rw [if_neg he]
      rcases ha y hy with ⟨g, -⟩ | ⟨i, g1, g2, g3, g4⟩
      · omega
      · refine Or.inr ⟨i + 1, by omega, by omega, (hs i).mpr ⟨y, hy, g3⟩, fun m hm hg => ?_⟩
        match m, hg with
        | 0, hg => exact hen hg
        | m + 1, hg =>
          obtain ⟨z, hz, hgz⟩ := (hs m).mp hg
          have := (hall z hz).1 rfl
          rcases ha z hz with ⟨q, -⟩ | ⟨j, q1, q2, q3, q4⟩
          · rcases ha z hz with ⟨-, q⟩ | ⟨j, q1, q2, -⟩
            · exact q m (by omega) hgz
            · omega
          · exact q4 m (by omega) hgz
theorem bh_second {a b : Int → Int} {tone x r : Int} {lv : Nat} (hl : lv < 50000) (h0 : exS (b x) (fun m => gP β mk tone false m x) lv) (hb : b x ≠ 0) (ha : ∀ y ∈ scG β mk x, exS (a y) (fun m => gP β mk tone true m y) lv) (h : bhV a β mk x 0 r) : exS r (fun m => gP β mk tone false m x) (lv + 1) := by
  have hen : ¬ gP β mk tone false 0 x := by
    rcases h0 with ⟨-, h⟩ | ⟨i, h1, h2, h3, h4⟩
    · exact h 0 (Nat.zero_le _)
    · by_cases hi : i = 0
      · subst hi
        exact absurd h2 hb
      · exact h4 0 (by omega)
  have hs : ∀ m, gP β mk tone false (m + 1) x ↔ scG β mk x ≠ [] ∧ ∀ y ∈ scG β mk x, gP β mk tone true m y := by
    intro m
    constructor
    · rintro (h | h)
      · exact absurd h hen
      · exact h
    · exact Or.inr
  rcases h with ⟨hn, rfl⟩ | ⟨e, ⟨y, hy, hye⟩, hall, rfl⟩
  · refine Or.inl ⟨rfl, fun m hm hg => ?_⟩
    match m, hg with
    | 0, hg => exact hen hg
    | m + 1, hg => exact ((hs m).mp hg).1 hn
  · have hne : scG β mk x ≠ [] := fun z => by
      rw [z] at hy
      cases hy
    by_cases he : 268435456 ≤ e
    · rw [if_pos he]
      refine Or.inl ⟨rfl, fun m hm hg => ?_⟩
      match m, hg with
      | 0, hg => exact hen hg
      | m + 1, hg =>
        have hgy := ((hs m).mp hg).2 y hy
        rcases ha y hy with ⟨-, g⟩ | ⟨i, g1, g2, -⟩
        · exact g m (by omega) hgy
        · omega
    · rw [if_neg he]
      rcases ha y hy with ⟨g, -⟩ | ⟨i, g1, g2, g3, g4⟩
      · omega
      · refine Or.inr ⟨i + 1, by omega, by omega, (hs i).mpr ⟨hne, fun z hz => ?_⟩, fun m hm hg => ?_⟩
        · have := (hall z hz).2 rfl
          rcases ha z hz with ⟨q, -⟩ | ⟨j, q1, q2, q3, q4⟩
          · omega
          · exact gW_le (by omega) q3
        · match m, hg with
          | 0, hg => exact hen hg
          | m + 1, hg => exact g4 m (by omega) (((hs m).mp hg).2 y hy)
/-- what is exact up to lv, and one further: the same, or new -/
theorem exS_step {v w : Int} {R : Nat → Prop} {lv : Nat} (hl : lv < 50000) (h : exS v R lv) (h2 : exS w R (lv + 1)) : w = v ∨ (v = 268435456 ∧ w = ((lv + 1 : Nat) : Int)) := by
  rcases h with ⟨a, b⟩ | ⟨i, a, b, c, e⟩ <;> rcases h2 with ⟨a2, b2⟩ | ⟨j, a2, b2, c2, e2⟩
  · left
    omega
  · right
    refine ⟨a, ?_⟩
    have : ¬ j ≤ lv := fun z => b j z c2
    omega
  · exact absurd c (b2 i (by omega))
  · left
    rcases Nat.lt_trichotomy i j with h | h | h
    · exact absurd c (e2 i h)
    · omega
    · exact absurd c2 (e j h)
end
