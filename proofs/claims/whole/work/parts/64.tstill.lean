/-! the reference's search: how far it is -/
theorem ldV_p {β : Bk} {mk : Int → Int} {qu un mo x v : Int} (h0 : 0 ≤ v) : (ldV β mk qu un mo x v = -1 ↔ ¬ ldP β mk qu un mo x v) ∧ (ldP β mk qu un mo x v → ldV β mk qu un mo x v = nxB β x (v / 10) (v % 10)) := by
  unfold ldV
  by_cases h : ldP β mk qu un mo x v
  · rw [if_pos h]
    refine ⟨⟨fun z => ?_, fun z => absurd h z⟩, fun _ => rfl⟩
    have := c9_in (x / 70 + β.tt (v % 10))
    have := c9_in (x / 7 % 10 + β.ht (v % 10))
    unfold nxB at z
    omega
  · rw [if_neg h]
    exact ⟨⟨fun _ => h, fun _ => rfl⟩, fun z => absurd z h⟩
theorem LD.at {c : mbCt} {β : Bk} {mk : Int → Int} {qu un mo : Int} (D : LD c β mk qu un mo) {x v : Int} (h0 : 0 ≤ x) (h1 : x < 700) (v0 : 0 ≤ v) (v1 : v < 100) : c 100 (100 * x + v) = ldV β mk qu un mo x v := by
  rw [D.1 (100 * x + v) (by omega) (by omega), show (100 * x + v) / 100 = x by omega, show (100 * x + v) % 100 = v by omega]
theorem LD.eq {c c2 : mbCt} {β : Bk} {mk : Int → Int} {qu un mo : Int} (D : LD c β mk qu un mo) (e1 : c2 100 = c 100) (e2 : c2 103 = c 103) : LD c2 β mk qu un mo := by
  unfold LD
  rw [e1, e2]
  exact D
theorem dX12_laysOne_0 : decode cX12_laysOne 0 = .ok (.iconst 0, 1) := by decide +kernel
theorem dX12_laysOne_1 : decode cX12_laysOne 1 = .ok (.istore 5, 2) := by decide +kernel
theorem dX12_laysOne_3 : decode cX12_laysOne 3 = .ok (.iload 5, 2) := by decide +kernel
theorem dX12_laysOne_5 : decode cX12_laysOne 5 = .ok (.bipush 60, 2) := by decide +kernel
theorem dX12_laysOne_7 : decode cX12_laysOne 7 = .ok (.if_icmp .ge 73, 3) := by decide +kernel
theorem dX12_laysOne_10 : decode cX12_laysOne 10 = .ok (.aload_n 0, 1) := by decide +kernel
theorem dX12_laysOne_11 : decode cX12_laysOne 11 = .ok (.getfield 40, 3) := by decide +kernel
theorem dX12_laysOne_14 : decode cX12_laysOne 14 = .ok (.bipush 100, 2) := by decide +kernel
theorem dX12_laysOne_16 : decode cX12_laysOne 16 = .ok (.iload_n 1, 1) := by decide +kernel
theorem dX12_laysOne_17 : decode cX12_laysOne 17 = .ok (.imul, 1) := by decide +kernel
theorem dX12_laysOne_18 : decode cX12_laysOne 18 = .ok (.iload 5, 2) := by decide +kernel
theorem dX12_laysOne_20 : decode cX12_laysOne 20 = .ok (.iadd, 1) := by decide +kernel
theorem dX12_laysOne_21 : decode cX12_laysOne 21 = .ok (.iaload, 1) := by decide +kernel
theorem dX12_laysOne_22 : decode cX12_laysOne 22 = .ok (.istore 6, 2) := by decide +kernel
theorem dX12_laysOne_24 : decode cX12_laysOne 24 = .ok (.iload 6, 2) := by decide +kernel
theorem dX12_laysOne_26 : decode cX12_laysOne 26 = .ok (.iconst (-1), 1) := by decide +kernel
theorem dX12_laysOne_27 : decode cX12_laysOne 27 = .ok (.if_icmp .eq 47, 3) := by decide +kernel
theorem dX12_laysOne_30 : decode cX12_laysOne 30 = .ok (.aload_n 0, 1) := by decide +kernel
theorem dX12_laysOne_31 : decode cX12_laysOne 31 = .ok (.getfield 44, 3) := by decide +kernel
theorem dX12_laysOne_34 : decode cX12_laysOne 34 = .ok (.bipush 64, 2) := by decide +kernel
theorem dX12_laysOne_36 : decode cX12_laysOne 36 = .ok (.iload 6, 2) := by decide +kernel
theorem dX12_laysOne_38 : decode cX12_laysOne 38 = .ok (.imul, 1) := by decide +kernel
theorem dX12_laysOne_39 : decode cX12_laysOne 39 = .ok (.aload_n 0, 1) := by decide +kernel
theorem dX12_laysOne_40 : decode cX12_laysOne 40 = .ok (.iload_n 2, 1) := by decide +kernel
theorem dX12_laysOne_41 : decode cX12_laysOne 41 = .ok (.iload 5, 2) := by decide +kernel
theorem dX12_laysOne_43 : decode cX12_laysOne 43 = .ok (.iload 4, 2) := by decide +kernel
theorem dX12_laysOne_45 : decode cX12_laysOne 45 = .ok (.invokevirtual 343, 3) := by decide +kernel
theorem dX12_laysOne_48 : decode cX12_laysOne 48 = .ok (.iadd, 1) := by decide +kernel
theorem dX12_laysOne_49 : decode cX12_laysOne 49 = .ok (.iaload, 1) := by decide +kernel
theorem dX12_laysOne_50 : decode cX12_laysOne 50 = .ok (.iload_n 3, 1) := by decide +kernel
theorem dX12_laysOne_51 : decode cX12_laysOne 51 = .ok (.iconst 1, 1) := by decide +kernel
theorem dX12_laysOne_52 : decode cX12_laysOne 52 = .ok (.isub, 1) := by decide +kernel
theorem dX12_laysOne_53 : decode cX12_laysOne 53 = .ok (.if_icmp .eq 6, 3) := by decide +kernel
theorem dX12_laysOne_56 : decode cX12_laysOne 56 = .ok (.goto 18, 3) := by decide +kernel
theorem dX12_laysOne_59 : decode cX12_laysOne 59 = .ok (.aload_n 0, 1) := by decide +kernel
theorem dX12_laysOne_60 : decode cX12_laysOne 60 = .ok (.getfield 44, 3) := by decide +kernel
theorem dX12_laysOne_63 : decode cX12_laysOne 63 = .ok (.bipush 64, 2) := by decide +kernel
theorem dX12_laysOne_65 : decode cX12_laysOne 65 = .ok (.iload_n 1, 1) := by decide +kernel
theorem dX12_laysOne_66 : decode cX12_laysOne 66 = .ok (.imul, 1) := by decide +kernel
theorem dX12_laysOne_67 : decode cX12_laysOne 67 = .ok (.iload_n 2, 1) := by decide +kernel
theorem dX12_laysOne_68 : decode cX12_laysOne 68 = .ok (.iadd, 1) := by decide +kernel
theorem dX12_laysOne_69 : decode cX12_laysOne 69 = .ok (.iload_n 3, 1) := by decide +kernel
theorem dX12_laysOne_70 : decode cX12_laysOne 70 = .ok (.ineg, 1) := by decide +kernel
theorem dX12_laysOne_71 : decode cX12_laysOne 71 = .ok (.iastore, 1) := by decide +kernel
theorem dX12_laysOne_72 : decode cX12_laysOne 72 = .ok (.iconst 1, 1) := by decide +kernel
theorem dX12_laysOne_73 : decode cX12_laysOne 73 = .ok (.ireturn, 1) := by decide +kernel
theorem dX12_laysOne_74 : decode cX12_laysOne 74 = .ok (.iinc 5 1, 3) := by decide +kernel
theorem dX12_laysOne_77 : decode cX12_laysOne 77 = .ok (.goto (-74), 3) := by decide +kernel
theorem dX12_laysOne_80 : decode cX12_laysOne 80 = .ok (.iconst 0, 1) := by decide +kernel
theorem dX12_laysOne_81 : decode cX12_laysOne 81 = .ok (.ireturn, 1) := by decide +kernel
theorem dX12_laysStill_0 : decode cX12_laysStill 0 = .ok (.iload_n 2, 1) := by decide +kernel
theorem dX12_laysStill_1 : decode cX12_laysStill 1 = .ok (.ifCond .eq 14, 3) := by decide +kernel
theorem dX12_laysStill_4 : decode cX12_laysStill 4 = .ok (.iconst 1, 1) := by decide +kernel
theorem dX12_laysStill_5 : decode cX12_laysStill 5 = .ok (.aload_n 0, 1) := by decide +kernel
theorem dX12_laysStill_6 : decode cX12_laysStill 6 = .ok (.getfield 13, 3) := by decide +kernel
theorem dX12_laysStill_9 : decode cX12_laysStill 9 = .ok (.iconst 1, 1) := by decide +kernel
theorem dX12_laysStill_10 : decode cX12_laysStill 10 = .ok (.iaload, 1) := by decide +kernel
theorem dX12_laysStill_11 : decode cX12_laysStill 11 = .ok (.ishl, 1) := by decide +kernel
theorem dX12_laysStill_12 : decode cX12_laysStill 12 = .ok (.goto 4, 3) := by decide +kernel
theorem dX12_laysStill_15 : decode cX12_laysStill 15 = .ok (.iconst 1, 1) := by decide +kernel
theorem dX12_laysStill_16 : decode cX12_laysStill 16 = .ok (.istore_n 3, 1) := by decide +kernel
theorem dX12_laysStill_17 : decode cX12_laysStill 17 = .ok (.iconst 0, 1) := by decide +kernel
theorem dX12_laysStill_18 : decode cX12_laysStill 18 = .ok (.istore 4, 2) := by decide +kernel
theorem dX12_laysStill_20 : decode cX12_laysStill 20 = .ok (.iload 4, 2) := by decide +kernel
theorem dX12_laysStill_22 : decode cX12_laysStill 22 = .ok (.ldc 43, 2) := by decide +kernel
theorem dX12_laysStill_24 : decode cX12_laysStill 24 = .ok (.if_icmp .ge 19, 3) := by decide +kernel
theorem dX12_laysStill_27 : decode cX12_laysStill 27 = .ok (.aload_n 0, 1) := by decide +kernel
theorem dX12_laysStill_28 : decode cX12_laysStill 28 = .ok (.getfield 44, 3) := by decide +kernel
theorem dX12_laysStill_31 : decode cX12_laysStill 31 = .ok (.iload 4, 2) := by decide +kernel
theorem dX12_laysStill_33 : decode cX12_laysStill 33 = .ok (.ldc_w 334, 3) := by decide +kernel
theorem dX12_laysStill_36 : decode cX12_laysStill 36 = .ok (.iastore, 1) := by decide +kernel
theorem dX12_laysStill_37 : decode cX12_laysStill 37 = .ok (.iinc 4 1, 3) := by decide +kernel
theorem dX12_laysStill_40 : decode cX12_laysStill 40 = .ok (.goto (-20), 3) := by decide +kernel
theorem dX12_laysStill_43 : decode cX12_laysStill 43 = .ok (.iconst 0, 1) := by decide +kernel
theorem dX12_laysStill_44 : decode cX12_laysStill 44 = .ok (.istore 4, 2) := by decide +kernel
theorem dX12_laysStill_46 : decode cX12_laysStill 46 = .ok (.iconst 0, 1) := by decide +kernel
theorem dX12_laysStill_47 : decode cX12_laysStill 47 = .ok (.istore 5, 2) := by decide +kernel
theorem dX12_laysStill_49 : decode cX12_laysStill 49 = .ok (.iload 5, 2) := by decide +kernel
theorem dX12_laysStill_51 : decode cX12_laysStill 51 = .ok (.sipush 700, 3) := by decide +kernel
theorem dX12_laysStill_54 : decode cX12_laysStill 54 = .ok (.if_icmp .ge 34, 3) := by decide +kernel
theorem dX12_laysStill_57 : decode cX12_laysStill 57 = .ok (.aload_n 0, 1) := by decide +kernel
theorem dX12_laysStill_58 : decode cX12_laysStill 58 = .ok (.iload 5, 2) := by decide +kernel
theorem dX12_laysStill_60 : decode cX12_laysStill 60 = .ok (.iload_n 1, 1) := by decide +kernel
theorem dX12_laysStill_61 : decode cX12_laysStill 61 = .ok (.invokevirtual 335, 3) := by decide +kernel
theorem dX12_laysStill_64 : decode cX12_laysStill 64 = .ok (.ifCond .eq 18, 3) := by decide +kernel
theorem dX12_laysStill_67 : decode cX12_laysStill 67 = .ok (.aload_n 0, 1) := by decide +kernel
theorem dX12_laysStill_68 : decode cX12_laysStill 68 = .ok (.getfield 44, 3) := by decide +kernel
theorem dX12_laysStill_71 : decode cX12_laysStill 71 = .ok (.bipush 64, 2) := by decide +kernel
theorem dX12_laysStill_73 : decode cX12_laysStill 73 = .ok (.iload 5, 2) := by decide +kernel
theorem dX12_laysStill_75 : decode cX12_laysStill 75 = .ok (.imul, 1) := by decide +kernel
theorem dX12_laysStill_76 : decode cX12_laysStill 76 = .ok (.iload_n 3, 1) := by decide +kernel
theorem dX12_laysStill_77 : decode cX12_laysStill 77 = .ok (.iadd, 1) := by decide +kernel
theorem dX12_laysStill_78 : decode cX12_laysStill 78 = .ok (.iconst 1, 1) := by decide +kernel
theorem dX12_laysStill_79 : decode cX12_laysStill 79 = .ok (.isub, 1) := by decide +kernel
theorem dX12_laysStill_80 : decode cX12_laysStill 80 = .ok (.iconst 0, 1) := by decide +kernel
theorem dX12_laysStill_81 : decode cX12_laysStill 81 = .ok (.iastore, 1) := by decide +kernel
theorem dX12_laysStill_82 : decode cX12_laysStill 82 = .ok (.iinc 5 1, 3) := by decide +kernel
theorem dX12_laysStill_85 : decode cX12_laysStill 85 = .ok (.goto (-36), 3) := by decide +kernel
theorem dX12_laysStill_88 : decode cX12_laysStill 88 = .ok (.iconst 1, 1) := by decide +kernel
theorem dX12_laysStill_89 : decode cX12_laysStill 89 = .ok (.istore 5, 2) := by decide +kernel
theorem dX12_laysStill_91 : decode cX12_laysStill 91 = .ok (.iload 5, 2) := by decide +kernel
theorem dX12_laysStill_93 : decode cX12_laysStill 93 = .ok (.ifCond .eq 125, 3) := by decide +kernel
theorem dX12_laysStill_96 : decode cX12_laysStill 96 = .ok (.iconst 0, 1) := by decide +kernel
theorem dX12_laysStill_97 : decode cX12_laysStill 97 = .ok (.istore 5, 2) := by decide +kernel
theorem dX12_laysStill_99 : decode cX12_laysStill 99 = .ok (.iinc 4 1, 3) := by decide +kernel
theorem dX12_laysStill_102 : decode cX12_laysStill 102 = .ok (.iconst 0, 1) := by decide +kernel
theorem dX12_laysStill_103 : decode cX12_laysStill 103 = .ok (.istore 6, 2) := by decide +kernel
theorem dX12_laysStill_105 : decode cX12_laysStill 105 = .ok (.iload 6, 2) := by decide +kernel
theorem dX12_laysStill_107 : decode cX12_laysStill 107 = .ok (.sipush 700, 3) := by decide +kernel
theorem dX12_laysStill_110 : decode cX12_laysStill 110 = .ok (.if_icmp .ge 67, 3) := by decide +kernel
theorem dX12_laysStill_113 : decode cX12_laysStill 113 = .ok (.iconst 0, 1) := by decide +kernel
theorem dX12_laysStill_114 : decode cX12_laysStill 114 = .ok (.istore 7, 2) := by decide +kernel
theorem dX12_laysStill_116 : decode cX12_laysStill 116 = .ok (.iload 7, 2) := by decide +kernel
theorem dX12_laysStill_118 : decode cX12_laysStill 118 = .ok (.iload_n 3, 1) := by decide +kernel
theorem dX12_laysStill_119 : decode cX12_laysStill 119 = .ok (.if_icmp .ge 52, 3) := by decide +kernel
theorem dX12_laysStill_122 : decode cX12_laysStill 122 = .ok (.iload 5, 2) := by decide +kernel
theorem dX12_laysStill_124 : decode cX12_laysStill 124 = .ok (.aload_n 0, 1) := by decide +kernel
theorem dX12_laysStill_125 : decode cX12_laysStill 125 = .ok (.getfield 44, 3) := by decide +kernel
theorem dX12_laysStill_128 : decode cX12_laysStill 128 = .ok (.bipush 64, 2) := by decide +kernel
theorem dX12_laysStill_130 : decode cX12_laysStill 130 = .ok (.iload 6, 2) := by decide +kernel
theorem dX12_laysStill_132 : decode cX12_laysStill 132 = .ok (.imul, 1) := by decide +kernel
theorem dX12_laysStill_133 : decode cX12_laysStill 133 = .ok (.iload 7, 2) := by decide +kernel
theorem dX12_laysStill_135 : decode cX12_laysStill 135 = .ok (.iadd, 1) := by decide +kernel
theorem dX12_laysStill_136 : decode cX12_laysStill 136 = .ok (.iaload, 1) := by decide +kernel
theorem dX12_laysStill_137 : decode cX12_laysStill 137 = .ok (.ldc_w 334, 3) := by decide +kernel
theorem dX12_laysStill_140 : decode cX12_laysStill 140 = .ok (.if_icmp .ne 21, 3) := by decide +kernel
theorem dX12_laysStill_143 : decode cX12_laysStill 143 = .ok (.aload_n 0, 1) := by decide +kernel
theorem dX12_laysStill_144 : decode cX12_laysStill 144 = .ok (.iload 6, 2) := by decide +kernel
theorem dX12_laysStill_146 : decode cX12_laysStill 146 = .ok (.iload 7, 2) := by decide +kernel
theorem dX12_laysStill_148 : decode cX12_laysStill 148 = .ok (.iload 4, 2) := by decide +kernel
theorem dX12_laysStill_150 : decode cX12_laysStill 150 = .ok (.iload_n 2, 1) := by decide +kernel
theorem dX12_laysStill_151 : decode cX12_laysStill 151 = .ok (.invokevirtual 339, 3) := by decide +kernel
theorem dX12_laysStill_154 : decode cX12_laysStill 154 = .ok (.ifCond .eq 7, 3) := by decide +kernel
theorem dX12_laysStill_157 : decode cX12_laysStill 157 = .ok (.iconst 1, 1) := by decide +kernel
theorem dX12_laysStill_158 : decode cX12_laysStill 158 = .ok (.goto 4, 3) := by decide +kernel
theorem dX12_laysStill_161 : decode cX12_laysStill 161 = .ok (.iconst 0, 1) := by decide +kernel
theorem dX12_laysStill_162 : decode cX12_laysStill 162 = .ok (.ior, 1) := by decide +kernel
theorem dX12_laysStill_163 : decode cX12_laysStill 163 = .ok (.istore 5, 2) := by decide +kernel
theorem dX12_laysStill_165 : decode cX12_laysStill 165 = .ok (.iinc 7 1, 3) := by decide +kernel
theorem dX12_laysStill_168 : decode cX12_laysStill 168 = .ok (.goto (-52), 3) := by decide +kernel
theorem dX12_laysStill_171 : decode cX12_laysStill 171 = .ok (.iinc 6 1, 3) := by decide +kernel
theorem dX12_laysStill_174 : decode cX12_laysStill 174 = .ok (.goto (-69), 3) := by decide +kernel
theorem dX12_laysStill_177 : decode cX12_laysStill 177 = .ok (.iconst 0, 1) := by decide +kernel
theorem dX12_laysStill_178 : decode cX12_laysStill 178 = .ok (.istore 6, 2) := by decide +kernel
theorem dX12_laysStill_180 : decode cX12_laysStill 180 = .ok (.iload 6, 2) := by decide +kernel
theorem dX12_laysStill_182 : decode cX12_laysStill 182 = .ok (.ldc 43, 2) := by decide +kernel
theorem dX12_laysStill_184 : decode cX12_laysStill 184 = .ok (.if_icmp .ge 31, 3) := by decide +kernel
theorem dX12_laysStill_187 : decode cX12_laysStill 187 = .ok (.aload_n 0, 1) := by decide +kernel
theorem dX12_laysStill_188 : decode cX12_laysStill 188 = .ok (.getfield 44, 3) := by decide +kernel
theorem dX12_laysStill_191 : decode cX12_laysStill 191 = .ok (.iload 6, 2) := by decide +kernel
theorem dX12_laysStill_193 : decode cX12_laysStill 193 = .ok (.iaload, 1) := by decide +kernel
theorem dX12_laysStill_194 : decode cX12_laysStill 194 = .ok (.iload 4, 2) := by decide +kernel
theorem dX12_laysStill_196 : decode cX12_laysStill 196 = .ok (.ineg, 1) := by decide +kernel
theorem dX12_laysStill_197 : decode cX12_laysStill 197 = .ok (.if_icmp .ne 12, 3) := by decide +kernel
theorem dX12_laysStill_200 : decode cX12_laysStill 200 = .ok (.aload_n 0, 1) := by decide +kernel
theorem dX12_laysStill_201 : decode cX12_laysStill 201 = .ok (.getfield 44, 3) := by decide +kernel
theorem dX12_laysStill_204 : decode cX12_laysStill 204 = .ok (.iload 6, 2) := by decide +kernel
theorem dX12_laysStill_206 : decode cX12_laysStill 206 = .ok (.iload 4, 2) := by decide +kernel
theorem dX12_laysStill_208 : decode cX12_laysStill 208 = .ok (.iastore, 1) := by decide +kernel
theorem dX12_laysStill_209 : decode cX12_laysStill 209 = .ok (.iinc 6 1, 3) := by decide +kernel
theorem dX12_laysStill_212 : decode cX12_laysStill 212 = .ok (.goto (-32), 3) := by decide +kernel
theorem dX12_laysStill_215 : decode cX12_laysStill 215 = .ok (.goto (-124), 3) := by decide +kernel
theorem dX12_laysStill_218 : decode cX12_laysStill 218 = .ok (.return_, 1) := by decide +kernel
theorem dX12_laysMinutes_0 : decode cX12_laysMinutes 0 = .ok (.aload_n 0, 1) := by decide +kernel
theorem dX12_laysMinutes_1 : decode cX12_laysMinutes 1 = .ok (.iload_n 1, 1) := by decide +kernel
theorem dX12_laysMinutes_2 : decode cX12_laysMinutes 2 = .ok (.iload_n 2, 1) := by decide +kernel
theorem dX12_laysMinutes_3 : decode cX12_laysMinutes 3 = .ok (.invokevirtual 347, 3) := by decide +kernel
theorem dX12_laysMinutes_6 : decode cX12_laysMinutes 6 = .ok (.aload_n 0, 1) := by decide +kernel
theorem dX12_laysMinutes_7 : decode cX12_laysMinutes 7 = .ok (.invokevirtual 251, 3) := by decide +kernel
theorem dX12_laysMinutes_10 : decode cX12_laysMinutes 10 = .ok (.istore_n 3, 1) := by decide +kernel
theorem dX12_laysMinutes_11 : decode cX12_laysMinutes 11 = .ok (.iconst 0, 1) := by decide +kernel
theorem dX12_laysMinutes_12 : decode cX12_laysMinutes 12 = .ok (.istore 4, 2) := by decide +kernel
theorem dX12_laysMinutes_14 : decode cX12_laysMinutes 14 = .ok (.aload_n 0, 1) := by decide +kernel
theorem dX12_laysMinutes_15 : decode cX12_laysMinutes 15 = .ok (.getfield 44, 3) := by decide +kernel
theorem dX12_laysMinutes_18 : decode cX12_laysMinutes 18 = .ok (.bipush 64, 2) := by decide +kernel
theorem dX12_laysMinutes_20 : decode cX12_laysMinutes 20 = .ok (.iload_n 3, 1) := by decide +kernel
theorem dX12_laysMinutes_21 : decode cX12_laysMinutes 21 = .ok (.imul, 1) := by decide +kernel
theorem dX12_laysMinutes_22 : decode cX12_laysMinutes 22 = .ok (.iaload, 1) := by decide +kernel
theorem dX12_laysMinutes_23 : decode cX12_laysMinutes 23 = .ok (.istore 5, 2) := by decide +kernel
theorem dX12_laysMinutes_25 : decode cX12_laysMinutes 25 = .ok (.iload 5, 2) := by decide +kernel
theorem dX12_laysMinutes_27 : decode cX12_laysMinutes 27 = .ok (.ldc_w 334, 3) := by decide +kernel
theorem dX12_laysMinutes_30 : decode cX12_laysMinutes 30 = .ok (.if_icmp .lt 5, 3) := by decide +kernel
theorem dX12_laysMinutes_33 : decode cX12_laysMinutes 33 = .ok (.iconst (-1), 1) := by decide +kernel
theorem dX12_laysMinutes_34 : decode cX12_laysMinutes 34 = .ok (.ireturn, 1) := by decide +kernel
theorem dX12_laysMinutes_35 : decode cX12_laysMinutes 35 = .ok (.iconst 0, 1) := by decide +kernel
theorem dX12_laysMinutes_36 : decode cX12_laysMinutes 36 = .ok (.istore 6, 2) := by decide +kernel
theorem dX12_laysMinutes_38 : decode cX12_laysMinutes 38 = .ok (.iload 6, 2) := by decide +kernel
theorem dX12_laysMinutes_40 : decode cX12_laysMinutes 40 = .ok (.iload 5, 2) := by decide +kernel
theorem dX12_laysMinutes_42 : decode cX12_laysMinutes 42 = .ok (.if_icmp .ge 107, 3) := by decide +kernel
theorem dX12_laysMinutes_45 : decode cX12_laysMinutes 45 = .ok (.iconst 0, 1) := by decide +kernel
theorem dX12_laysMinutes_46 : decode cX12_laysMinutes 46 = .ok (.istore 7, 2) := by decide +kernel
theorem dX12_laysMinutes_48 : decode cX12_laysMinutes 48 = .ok (.aload_n 0, 1) := by decide +kernel
theorem dX12_laysMinutes_49 : decode cX12_laysMinutes 49 = .ok (.getfield 40, 3) := by decide +kernel
theorem dX12_laysMinutes_52 : decode cX12_laysMinutes 52 = .ok (.bipush 100, 2) := by decide +kernel
theorem dX12_laysMinutes_54 : decode cX12_laysMinutes 54 = .ok (.iload_n 3, 1) := by decide +kernel
theorem dX12_laysMinutes_55 : decode cX12_laysMinutes 55 = .ok (.imul, 1) := by decide +kernel
theorem dX12_laysMinutes_56 : decode cX12_laysMinutes 56 = .ok (.iload 7, 2) := by decide +kernel
theorem dX12_laysMinutes_58 : decode cX12_laysMinutes 58 = .ok (.iadd, 1) := by decide +kernel
theorem dX12_laysMinutes_59 : decode cX12_laysMinutes 59 = .ok (.iaload, 1) := by decide +kernel
theorem dX12_laysMinutes_60 : decode cX12_laysMinutes 60 = .ok (.iconst (-1), 1) := by decide +kernel
theorem dX12_laysMinutes_61 : decode cX12_laysMinutes 61 = .ok (.if_icmp .eq 43, 3) := by decide +kernel
theorem dX12_laysMinutes_64 : decode cX12_laysMinutes 64 = .ok (.aload_n 0, 1) := by decide +kernel
theorem dX12_laysMinutes_65 : decode cX12_laysMinutes 65 = .ok (.getfield 44, 3) := by decide +kernel
theorem dX12_laysMinutes_68 : decode cX12_laysMinutes 68 = .ok (.bipush 64, 2) := by decide +kernel
theorem dX12_laysMinutes_70 : decode cX12_laysMinutes 70 = .ok (.aload_n 0, 1) := by decide +kernel
theorem dX12_laysMinutes_71 : decode cX12_laysMinutes 71 = .ok (.getfield 40, 3) := by decide +kernel
theorem dX12_laysMinutes_74 : decode cX12_laysMinutes 74 = .ok (.bipush 100, 2) := by decide +kernel
theorem dX12_laysMinutes_76 : decode cX12_laysMinutes 76 = .ok (.iload_n 3, 1) := by decide +kernel
theorem dX12_laysMinutes_77 : decode cX12_laysMinutes 77 = .ok (.imul, 1) := by decide +kernel
theorem dX12_laysMinutes_78 : decode cX12_laysMinutes 78 = .ok (.iload 7, 2) := by decide +kernel
theorem dX12_laysMinutes_80 : decode cX12_laysMinutes 80 = .ok (.iadd, 1) := by decide +kernel
theorem dX12_laysMinutes_81 : decode cX12_laysMinutes 81 = .ok (.iaload, 1) := by decide +kernel
theorem dX12_laysMinutes_82 : decode cX12_laysMinutes 82 = .ok (.imul, 1) := by decide +kernel
theorem dX12_laysMinutes_83 : decode cX12_laysMinutes 83 = .ok (.aload_n 0, 1) := by decide +kernel
theorem dX12_laysMinutes_84 : decode cX12_laysMinutes 84 = .ok (.iload 4, 2) := by decide +kernel
theorem dX12_laysMinutes_86 : decode cX12_laysMinutes 86 = .ok (.iload 7, 2) := by decide +kernel
theorem dX12_laysMinutes_88 : decode cX12_laysMinutes 88 = .ok (.iload_n 2, 1) := by decide +kernel
theorem dX12_laysMinutes_89 : decode cX12_laysMinutes 89 = .ok (.invokevirtual 343, 3) := by decide +kernel
theorem dX12_laysMinutes_92 : decode cX12_laysMinutes 92 = .ok (.iadd, 1) := by decide +kernel
theorem dX12_laysMinutes_93 : decode cX12_laysMinutes 93 = .ok (.iaload, 1) := by decide +kernel
theorem dX12_laysMinutes_94 : decode cX12_laysMinutes 94 = .ok (.iload 5, 2) := by decide +kernel
theorem dX12_laysMinutes_96 : decode cX12_laysMinutes 96 = .ok (.iload 6, 2) := by decide +kernel
theorem dX12_laysMinutes_98 : decode cX12_laysMinutes 98 = .ok (.isub, 1) := by decide +kernel
theorem dX12_laysMinutes_99 : decode cX12_laysMinutes 99 = .ok (.iconst 1, 1) := by decide +kernel
theorem dX12_laysMinutes_100 : decode cX12_laysMinutes 100 = .ok (.isub, 1) := by decide +kernel
theorem dX12_laysMinutes_101 : decode cX12_laysMinutes 101 = .ok (.if_icmp .eq 9, 3) := by decide +kernel
theorem dX12_laysMinutes_104 : decode cX12_laysMinutes 104 = .ok (.iinc 7 1, 3) := by decide +kernel
theorem dX12_laysMinutes_107 : decode cX12_laysMinutes 107 = .ok (.goto (-59), 3) := by decide +kernel
theorem dX12_laysMinutes_110 : decode cX12_laysMinutes 110 = .ok (.aload_n 0, 1) := by decide +kernel
theorem dX12_laysMinutes_111 : decode cX12_laysMinutes 111 = .ok (.getfield 47, 3) := by decide +kernel
theorem dX12_laysMinutes_114 : decode cX12_laysMinutes 114 = .ok (.iload 6, 2) := by decide +kernel
theorem dX12_laysMinutes_116 : decode cX12_laysMinutes 116 = .ok (.iload 7, 2) := by decide +kernel
theorem dX12_laysMinutes_118 : decode cX12_laysMinutes 118 = .ok (.iastore, 1) := by decide +kernel
theorem dX12_laysMinutes_119 : decode cX12_laysMinutes 119 = .ok (.aload_n 0, 1) := by decide +kernel
theorem dX12_laysMinutes_120 : decode cX12_laysMinutes 120 = .ok (.iload 4, 2) := by decide +kernel
theorem dX12_laysMinutes_122 : decode cX12_laysMinutes 122 = .ok (.iload 7, 2) := by decide +kernel
theorem dX12_laysMinutes_124 : decode cX12_laysMinutes 124 = .ok (.iload_n 2, 1) := by decide +kernel
theorem dX12_laysMinutes_125 : decode cX12_laysMinutes 125 = .ok (.invokevirtual 343, 3) := by decide +kernel
theorem dX12_laysMinutes_128 : decode cX12_laysMinutes 128 = .ok (.istore 4, 2) := by decide +kernel
theorem dX12_laysMinutes_130 : decode cX12_laysMinutes 130 = .ok (.aload_n 0, 1) := by decide +kernel
theorem dX12_laysMinutes_131 : decode cX12_laysMinutes 131 = .ok (.getfield 40, 3) := by decide +kernel
theorem dX12_laysMinutes_134 : decode cX12_laysMinutes 134 = .ok (.bipush 100, 2) := by decide +kernel
theorem dX12_laysMinutes_136 : decode cX12_laysMinutes 136 = .ok (.iload_n 3, 1) := by decide +kernel
theorem dX12_laysMinutes_137 : decode cX12_laysMinutes 137 = .ok (.imul, 1) := by decide +kernel
theorem dX12_laysMinutes_138 : decode cX12_laysMinutes 138 = .ok (.iload 7, 2) := by decide +kernel
theorem dX12_laysMinutes_140 : decode cX12_laysMinutes 140 = .ok (.iadd, 1) := by decide +kernel
theorem dX12_laysMinutes_141 : decode cX12_laysMinutes 141 = .ok (.iaload, 1) := by decide +kernel
theorem dX12_laysMinutes_142 : decode cX12_laysMinutes 142 = .ok (.istore_n 3, 1) := by decide +kernel
theorem dX12_laysMinutes_143 : decode cX12_laysMinutes 143 = .ok (.iinc 6 1, 3) := by decide +kernel
theorem dX12_laysMinutes_146 : decode cX12_laysMinutes 146 = .ok (.goto (-108), 3) := by decide +kernel
theorem dX12_laysMinutes_149 : decode cX12_laysMinutes 149 = .ok (.iload 5, 2) := by decide +kernel
theorem dX12_laysMinutes_151 : decode cX12_laysMinutes 151 = .ok (.ireturn, 1) := by decide +kernel
section
variable (d : Nat) (sh : mbSh) (ct : mbCt) {β : Bk} {mk : Int → Int} {st qu un mo : Int}
def oneC (ct : mbCt) (β : Bk) (mk : Int → Int) (qu un mo x s f : Int) (lv : Nat) (r : Int) (c : mbCt) : Prop := (r = 1 ∧ (∃ v, 0 ≤ v ∧ v < 60 ∧ ldP β mk qu un mo x v ∧ ct 101 (64 * nxB β x (v / 10) (v % 10) + spI f s (v / 10)) = lv) ∧ c = wr ct 101 (64 * x + s) (-((lv : Int) + 1))) ∨ (r = 0 ∧ (∀ v, 0 ≤ v → v < 60 → ldP β mk qu un mo x v → ct 101 (64 * nxB β x (v / 10) (v % 10) + spI f s (v / 10)) ≠ lv) ∧ c = ct)
theorem tw_laysOne {x s f : Int} {lv : Nat} (S : SH sh) (L : LK ct) (D : LD ct β mk qu un mo) (hB : bkB β) (x0 : 0 ≤ x) (x1 : x < 700) (s0 : 0 ≤ s) (s1 : s < 64) (hf : f = 0 ∨ f = 1) (hl : lv < 50000) (hr : ∀ j, 0 ≤ j → j < 44800 → -50000 ≤ ct 101 j ∧ ct 101 j ≤ 268435456) : Mt YX12_laysOne (d + 1) [.inr (.inr 92), .inl x, .inl s, .inl ((lv : Int) + 1), .inl f] sh sh ct (pI fun r c => oneC ct β mk qu un mo x s f lv r c) := by
  have s100 : shA sh 100 = some (20, 70000) := S.at _ rfl
  have s101 : shA sh 101 = some (20, 44800) := S.at _ rfl
  refine Mt.of rfl (Nat.le_of_ble_eq_true rfl) ?_
  show G _ 0 [some (.inr (.inr 92)), some (.inl x), some (.inl s), some (.inl ((lv : Int) + 1)), some (.inl f), none, none] [] sh ct
  refine g_iconst (q := 1) dX12_laysOne_0 rfl ?_
  refine s_istore_7_5 (q := 3) dX12_laysOne_1 rfl rfl rfl ?_
  refine g_for (fun v => [some (.inr (.inr 92)), some (.inl x), some (.inl s), some (.inl ((lv : Int) + 1)), some (.inl f), some (.inl v), none]) (fun v c => c = ct ∧ 0 ≤ v ∧ ∀ v', 0 ≤ v' → v' < v → ldP β mk qu un mo x v' → ct 101 (64 * nxB β x (v' / 10) (v' % 10) + spI f s (v' / 10)) ≠ lv) 60 ?_ ?_ (i := 0) (by omega) ⟨rfl, by omega, fun v' _ _ => by omega⟩ (by simp [lsSub])
  · rintro v c hv ⟨rfl, v0, ih⟩ k
    have hld := D.at x0 x1 v0 (by omega)
    have hp := ldV_p (β := β) (mk := mk) (qu := qu) (un := un) (mo := mo) (x := x) v0
    have go : (ldP β mk qu un mo x v → c 101 (64 * nxB β x (v / 10) (v % 10) + spI f s (v / 10)) ≠ lv) → ∀ o, G (mkK YX12_laysOne (d + 1) sh sh (pI fun r c2 => oneC c β mk qu un mo x s f lv r c2)) 74 [some (.inr (.inr 92)), some (.inl x), some (.inl s), some (.inl ((lv : Int) + 1)), some (.inl f), some (.inl v), o] [] sh c := by
      intro h o
      refine s_iinc_7_5 (q := 77) dX12_laysOne_74 rfl rfl rfl ?_
      refine g_goto (q := 3) dX12_laysOne_77 (by decide) ?_
      refine k _ _ (by simp [lsSub]) ⟨rfl, by omega, fun v' a0 a1 a2 => ?_⟩
      by_cases e : v' = v
      · subst e
        exact h a2
      · exact ih v' a0 (by omega) a2
    refine g_iload (q := 5) dX12_laysOne_3 rfl rfl ?_
    refine g_bipush (q := 7) dX12_laysOne_5 (by decide +kernel) rfl ?_
    refine g_icmp_ge (q := 10) (tg := 80) dX12_laysOne_7 (by decide) rfl (fun c_7 => ?_) (fun c_7 => ?_)
    · exact absurd c_7 (by unfold w32; omega)
    · refine g_aload_n (q := 11) dX12_laysOne_10 rfl rfl ?_
      refine g_getA (q := 14) (kI := 21) fX12_40 (by first | assumption | exact S.at _ rfl) dX12_laysOne_11 rfl rfl (by first | assumption | exact L.at _ _ rfl | exact LK.at (by assumption) _ _ rfl | ((repeat first | rewrite [wr_na (by decide)] | rewrite [wr_nk (by decide)] | rewrite [wa_na (by decide)]); first | assumption | exact LK.at (by assumption) _ _ rfl) | exact rfl) ?_
      refine g_bipush (q := 16) dX12_laysOne_14 (by decide +kernel) rfl ?_
      refine g_iload_n (q := 17) dX12_laysOne_16 rfl rfl ?_
      refine g_imul (q := 18) dX12_laysOne_17 rfl ?_
      refine g_iload (q := 20) dX12_laysOne_18 rfl rfl ?_
      refine g_iadd (q := 21) dX12_laysOne_20 rfl ?_
      refine g_iaload (q := 22) (by first | assumption | exact S.at _ rfl) (by omega) (by omega) (by omega) dX12_laysOne_21 rfl ?_
      rw [hld]
      by_cases hq : ldP β mk qu un mo x v
      · rw [hp.2 hq]
        have hm := hq.1.1
        have hB2 := hB.2.2.1
        have hnx := nxB_in (β := β) (st := x) (m := v / 10) (s := v % 10) (by omega) (by omega)
        have hsp := spI_lt (f := f) (s := s) (m := v / 10) s0 s1 (by omega) (by omega)
        have hra := hr (64 * nxB β x (v / 10) (v % 10) + spI f s (v / 10)) (by omega) (by omega)
        refine s_istore_7_6 (q := 24) dX12_laysOne_22 rfl rfl rfl ?_
        refine g_iload (q := 26) dX12_laysOne_24 rfl rfl ?_
        refine g_iconst (q := 27) dX12_laysOne_26 rfl ?_
        refine g_icmp_eq (q := 30) (tg := 74) dX12_laysOne_27 (by decide) rfl (fun c_27 => ?_) (fun c_27 => ?_)
        · exact absurd c_27 (by unfold w32; omega)
        · refine g_aload_n (q := 31) dX12_laysOne_30 rfl rfl ?_
          refine g_getA (q := 34) (kI := 22) fX12_44 (by first | assumption | exact S.at _ rfl) dX12_laysOne_31 rfl rfl (by first | assumption | exact L.at _ _ rfl | exact LK.at (by assumption) _ _ rfl | ((repeat first | rewrite [wr_na (by decide)] | rewrite [wr_nk (by decide)] | rewrite [wa_na (by decide)]); first | assumption | exact LK.at (by assumption) _ _ rfl) | exact rfl) ?_
          refine g_bipush (q := 36) dX12_laysOne_34 (by decide +kernel) rfl ?_
          refine g_iload (q := 38) dX12_laysOne_36 rfl rfl ?_
          refine g_imul (q := 39) dX12_laysOne_38 rfl ?_
          refine g_aload_n (q := 40) dX12_laysOne_39 rfl rfl ?_
          refine g_iload_n (q := 41) dX12_laysOne_40 rfl rfl ?_
          refine g_iload (q := 43) dX12_laysOne_41 rfl rfl ?_
          refine g_iload (q := 45) dX12_laysOne_43 rfl rfl ?_
          refine g_callV (q := 48) lX12_343 mX12_spokenBy nX12_spokenBy rfl (tw_spokenBy d sh _ hf v0 (by omega)) (by first | assumption | exact S.at _ rfl) rfl rfl shLe.rf (rmOk.mk (by omega) (by first | exact shLe.rf | assumption)) (Nat.le_of_ble_eq_true rfl) dX12_laysOne_45 rfl rfl (kI fun r_ c_ hp => ?_)
          obtain ⟨hr, hq⟩ := hp
          replace hr := hr.symm
          replace hq := hq.symm
          subst hr hq
          refine g_iadd (q := 49) dX12_laysOne_48 rfl ?_
          refine g_iaload (q := 50) (by first | assumption | exact S.at _ rfl) (by omega) (by omega) (by omega) dX12_laysOne_49 rfl ?_
          refine g_iload_n (q := 51) dX12_laysOne_50 rfl rfl ?_
          refine g_iconst (q := 52) dX12_laysOne_51 rfl ?_
          refine g_isub (q := 53) dX12_laysOne_52 rfl ?_
          refine g_icmp_eq (q := 56) (tg := 59) dX12_laysOne_53 (by decide) rfl (fun c_53 => ?_) (fun c_53 => ?_)
          · have he : c 101 (64 * nxB β x (v / 10) (v % 10) + spI f s (v / 10)) = lv := by unfold w32 at c_53; omega
            refine g_aload_n (q := 60) dX12_laysOne_59 rfl rfl ?_
            refine g_getA (q := 63) (kI := 22) fX12_44 (by first | assumption | exact S.at _ rfl) dX12_laysOne_60 rfl rfl (by first | assumption | exact L.at _ _ rfl | exact LK.at (by assumption) _ _ rfl | ((repeat first | rewrite [wr_na (by decide)] | rewrite [wr_nk (by decide)] | rewrite [wa_na (by decide)]); first | assumption | exact LK.at (by assumption) _ _ rfl) | exact rfl) ?_
            refine g_bipush (q := 65) dX12_laysOne_63 (by decide +kernel) rfl ?_
            refine g_iload_n (q := 66) dX12_laysOne_65 rfl rfl ?_
            refine g_imul (q := 67) dX12_laysOne_66 rfl ?_
            refine g_iload_n (q := 68) dX12_laysOne_67 rfl rfl ?_
            refine g_iadd (q := 69) dX12_laysOne_68 rfl ?_
            refine g_iload_n (q := 70) dX12_laysOne_69 rfl rfl ?_
            refine g_ineg (q := 71) dX12_laysOne_70 rfl ?_
            refine g_iastore (q := 72) (by first | assumption | exact S.at _ rfl) (by omega) (by omega) (by omega) dX12_laysOne_71 rfl ?_
            refine g_iconst (q := 73) dX12_laysOne_72 rfl ?_
            refine g_zreturn dX12_laysOne_73 rfl (by decide +kernel) ?_
            refine ⟨_, rfl, Or.inl ⟨rfl, ⟨v, v0, hv, hq, he⟩, ?_⟩⟩
            rfl
          · refine g_goto (q := 74) dX12_laysOne_56 (by decide) ?_
            exact go (fun _ z => by unfold w32 at c_53; omega) _
      · rw [hp.1.mpr hq]
        refine s_istore_7_6 (q := 24) dX12_laysOne_22 rfl rfl rfl ?_
        refine g_iload (q := 26) dX12_laysOne_24 rfl rfl ?_
        refine g_iconst (q := 27) dX12_laysOne_26 rfl ?_
        refine g_icmp_eq (q := 30) (tg := 74) dX12_laysOne_27 (by decide) rfl (fun c_27 => ?_) (fun c_27 => ?_)
        · exact go (fun z => absurd z hq) _
        · exact absurd rfl c_27
  · rintro c ⟨rfl, -, ih⟩
    refine g_iload (q := 5) dX12_laysOne_3 rfl rfl ?_
    refine g_bipush (q := 7) dX12_laysOne_5 (by decide +kernel) rfl ?_
    refine g_icmp_ge (q := 10) (tg := 80) dX12_laysOne_7 (by decide) rfl (fun c_7 => ?_) (fun c_7 => ?_)
    · refine g_iconst (q := 81) dX12_laysOne_80 rfl ?_
      refine g_zreturn dX12_laysOne_81 rfl (by decide +kernel) ?_
      exact ⟨_, rfl, Or.inr ⟨rfl, ih, rfl⟩⟩
    · exact absurd c_7 (by decide)
def RnR (β : Bk) (mk : Int → Int) (U : Nat) (cap tone : Int) (M : Nat) (x s : Int) (n : Nat) : Prop := Rn (scW β mk U cap (wM M)) (goalW β tone (wM M)) n (x, s)
theorem RnR_s {U M n : Nat} {cap tone x s f : Int} (hU : useOk U qu un) (hc : cap ≤ 9) (hB : bkB β) (hM : fulM β f M) (s0 : 0 ≤ s) (s1 : s < 2 ^ M) : RnR β mk U cap tone M x s (n + 1) ↔ ∃ v, 0 ≤ v ∧ v < 60 ∧ ldP β mk qu un cap x v ∧ RnR β mk U cap tone M (nxB β x (v / 10) (v % 10)) (spI f s (v / 10)) n := by
  unfold RnR
  show (∃ q ∈ scW β mk U cap (wM M) (x, s), Rn (scW β mk U cap (wM M)) (goalW β tone (wM M)) n q.2) ↔ _
  rw [ex_al hU hc hB (P := fun q => Rn (scW β mk U cap (wM M)) (goalW β tone (wM M)) n q)]
  constructor
  · rintro ⟨v, h1, h2, h3, h4⟩
    refine ⟨v, h1, h2, h3, ?_⟩
    rw [(sp_fm hM s0 s1 (by omega) h3.1.1).1]
    exact h4
  · rintro ⟨v, h1, h2, h3, h4⟩
    refine ⟨v, h1, h2, h3, ?_⟩
    rw [(sp_fm hM s0 s1 (by omega) h3.1.1).1] at h4
    exact h4
/-- the row 'still' at the head of a round -/
def StI (c : mbCt) (β : Bk) (mk : Int → Int) (U : Nat) (cap tone : Int) (M lv : Nat) : Prop := (∀ j, 0 ≤ j → j < 44800 → 2 ^ M ≤ j % 64 → c 101 j = 268435456) ∧ (∀ x s, 0 ≤ x → x < 700 → 0 ≤ s → s < 2 ^ M → exS (c 101 (64 * x + s)) (RnR β mk U cap tone M x s) lv) ∧ ∀ i : Nat, 1 ≤ i → i ≤ lv → ∃ j : Int, (0 ≤ j ∧ j < 44800) ∧ c 101 j = i
theorem StI.lt {c : mbCt} {U M lv : Nat} {cap tone : Int} (h : StI c β mk U cap tone M lv) : lv ≤ 44800 := by
  have hx : ∀ i : Nat, ∃ j : Int, i < lv → ((0 ≤ j ∧ j < 44800) ∧ c 101 j = ((i + 1 : Nat) : Int)) := by
    intro i
    by_cases hi : i < lv
    · obtain ⟨j, h1, h2⟩ := h.2.2 (i + 1) (by omega) (by omega)
      exact ⟨j, fun _ => ⟨h1, h2⟩⟩
    · exact ⟨0, fun z => absurd z hi⟩
  obtain ⟨g, hg⟩ := Classical.axiomOfChoice hx
  refine pig 44800 lv (fun i => (g i).toNat) ?_ ?_
  · intro j hj
    have := (hg j hj).1
    show (g j).toNat < 44800
    omega
  · intro j k hj hk he
    have he' : (g j).toNat = (g k).toNat := he
    obtain ⟨a1, a2⟩ := hg j hj
    obtain ⟨b1, b2⟩ := hg k hk
    have : g j = g k := by omega
    rw [this, b2] at a2
    omega
theorem pw6 {M : Nat} (h : M ≤ 6) : (1 : Int) ≤ 2 ^ M ∧ (2 : Int) ^ M ≤ 64 := by
  rcases (show M = 0 ∨ M = 1 ∨ M = 2 ∨ M = 3 ∨ M = 4 ∨ M = 5 ∨ M = 6 by omega) with rfl | rfl | rfl | rfl | rfl | rfl | rfl <;> decide
/-- a node within a round: as it was, or found in this round -/
def inR (v : Int) (R : Nat → Prop) (lv : Nat) : Prop := (v ≠ -((lv : Int) + 1) ∧ exS v R (lv + 1)) ∨ (v = -((lv : Int) + 1) ∧ R (lv + 1) ∧ ∀ m, m ≤ lv → ¬ R m)
/-- the row 'still' within a round: nodes ahead of p were looked at -/
def StR (c0 : mbCt) (β : Bk) (mk : Int → Int) (U : Nat) (cap tone : Int) (M lv : Nat) (p more : Int) (c : mbCt) : Prop := (∀ j, 0 ≤ j → j < 44800 → 2 ^ M ≤ j % 64 → c 101 j = 268435456) ∧ (∀ x s, 0 ≤ x → x < 700 → 0 ≤ s → s < 2 ^ M → 64 * x + s < p → inR (c 101 (64 * x + s)) (RnR β mk U cap tone M x s) lv) ∧ (∀ j, p ≤ j → j < 44800 → c 101 j = c0 101 j) ∧ (∀ j, 0 ≤ j → j < 44800 → c 101 j = c0 101 j ∨ (c0 101 j = 268435456 ∧ c 101 j = -((lv : Int) + 1))) ∧ ((more = 0 ∧ ∀ j, 0 ≤ j → j < 44800 → c 101 j = c0 101 j) ∨ (more = 1 ∧ ∃ j : Int, (0 ≤ j ∧ j < 44800) ∧ c 101 j = -((lv : Int) + 1)))
theorem StI.rg {c : mbCt} {U M lv : Nat} {cap tone : Int} (hM : M ≤ 6) (h : StI c β mk U cap tone M lv) : ∀ j, 0 ≤ j → j < 44800 → 0 ≤ c 101 j ∧ c 101 j ≤ 268435456 := by
  intro j j0 j1
  have hl := h.lt
  by_cases hj : 2 ^ M ≤ j % 64
  · rw [h.1 j j0 j1 hj]
    omega
  · have h2 := h.2.1 (j / 64) (j % 64) (by omega) (by omega) (by omega) (by omega)
    rw [show 64 * (j / 64) + j % 64 = j by omega] at h2
    rcases h2 with ⟨h3, -⟩ | ⟨i, h3, h4, -⟩ <;> omega
theorem StR.all {c0 c : mbCt} {U M lv : Nat} {cap tone more : Int} (hM : M ≤ 6) (h0 : StI c0 β mk U cap tone M lv) (h : StR c0 β mk U cap tone M lv 44800 more c) {c2 : mbCt} (h2 : ∀ j, 0 ≤ j → j < 44800 → c2 101 j = if c 101 j = -((lv : Int) + 1) then (lv : Int) + 1 else c 101 j) : (more = 0 ∧ StI c2 β mk U cap tone M lv ∧ ∀ x s, 0 ≤ x → x < 700 → 0 ≤ s → s < 2 ^ M → RnR β mk U cap tone M x s (lv + 1) → ∃ m, m ≤ lv ∧ RnR β mk U cap tone M x s m) ∨ (more = 1 ∧ StI c2 β mk U cap tone M (lv + 1)) := by
  have hp := pw6 hM
  have hl := h0.lt
  have hg := h0.rg hM
  have nd : ∀ x s, 0 ≤ x → x < 700 → 0 ≤ s → s < 2 ^ M → exS (c2 101 (64 * x + s)) (RnR β mk U cap tone M x s) (lv + 1) := by
    intro x s x0 x1 s0 s1
    have hq := h.2.1 x s x0 x1 s0 s1 (by omega)
    rw [h2 (64 * x + s) (by omega) (by omega)]
    rcases hq with ⟨a, b⟩ | ⟨a, b, e⟩
    · rw [if_neg a]
      exact b
    · rw [if_pos a]
      exact Or.inr ⟨lv + 1, by omega, by simp, b, fun m hm => e m (by omega)⟩
  have hi : ∀ j, 0 ≤ j → j < 44800 → 2 ^ M ≤ j % 64 → c2 101 j = 268435456 := by
    intro j j0 j1 j2
    rw [h2 j j0 j1, h.1 j j0 j1 j2, if_neg (by omega)]
  rcases h.2.2.2.2 with ⟨rfl, he⟩ | ⟨rfl, j, ⟨j0, j1⟩, hj⟩
  · refine Or.inl ⟨rfl, ?_, ?_⟩
    · have e2 : ∀ j, 0 ≤ j → j < 44800 → c2 101 j = c0 101 j := by
        intro j j0 j1
        have := hg j j0 j1
        rw [h2 j j0 j1, he j j0 j1, if_neg (by omega)]
      refine ⟨hi, fun x s x0 x1 s0 s1 => ?_, fun i i1 i2 => ?_⟩
      · rw [e2 _ (by omega) (by omega)]
        exact h0.2.1 x s x0 x1 s0 s1
      · obtain ⟨j, hj1, hj2⟩ := h0.2.2 i i1 i2
        exact ⟨j, hj1, by rw [e2 j hj1.1 hj1.2]; exact hj2⟩
    · intro x s x0 x1 s0 s1 hR
      have e1 := nd x s x0 x1 s0 s1
      have e3 := h0.2.1 x s x0 x1 s0 s1
      have e2 : c2 101 (64 * x + s) = c0 101 (64 * x + s) := by
        have := hg (64 * x + s) (by omega) (by omega)
        rw [h2 _ (by omega) (by omega), he _ (by omega) (by omega), if_neg (by omega)]
      rw [e2] at e1
      rcases e3 with ⟨a, b⟩ | ⟨i, a, b, e, g⟩
      · exact absurd hR (e1.no a (by omega) _ (Nat.le_refl _))
      · exact ⟨i, a, e⟩
  · refine Or.inr ⟨rfl, hi, nd, ?_⟩
    intro i i1 i2
    by_cases e : i = lv + 1
    · refine ⟨j, ⟨j0, j1⟩, ?_⟩
      rw [h2 j j0 j1, if_pos hj]
      omega
    · obtain ⟨j', ⟨hj0, hj1⟩, hj2⟩ := h0.2.2 i i1 (by omega)
      refine ⟨j', ⟨hj0, hj1⟩, ?_⟩
      have := h.2.2.2.1 j' hj0 hj1
      rw [h2 j' hj0 hj1]
      rcases this with e5 | ⟨e5, -⟩
      · rw [e5, hj2, if_neg (by omega)]
      · omega
theorem Rn_stop {U M lv : Nat} {cap tone f : Int} (hU : useOk U qu un) (hc : cap ≤ 9) (hB : bkB β) (hM : fulM β f M) (h : ∀ x s, 0 ≤ x → x < 700 → 0 ≤ s → s < 2 ^ M → RnR β mk U cap tone M x s (lv + 1) → ∃ m, m ≤ lv ∧ RnR β mk U cap tone M x s m) : ∀ (n : Nat) (x s : Int), 0 ≤ x → x < 700 → 0 ≤ s → s < 2 ^ M → RnR β mk U cap tone M x s n → ∃ m, m ≤ lv ∧ RnR β mk U cap tone M x s m := by
  intro n
  induction n with
  | zero =>
    intro x s x0 x1 s0 s1 hR
    exact ⟨0, Nat.zero_le _, hR⟩
  | succ n ih =>
    intro x s x0 x1 s0 s1 hR
    obtain ⟨v, v0, v1, hl, hR2⟩ := (RnR_s hU hc hB hM s0 s1).mp hR
    have hB2 := hB.2.2.1
    have hm := hl.1.1
    have hnx := nxB_in (β := β) (st := x) (m := v / 10) (s := v % 10) (by omega) (by omega)
    have hsp := sp_fm hM s0 s1 (m := v / 10) (by omega) hm
    obtain ⟨m, m1, hR3⟩ := ih _ _ hnx.1 hnx.2 hsp.2.1 hsp.2.2 hR2
    have hR4 : RnR β mk U cap tone M x s (m + 1) := (RnR_s hU hc hB hM s0 s1).mpr ⟨v, v0, v1, hl, hR3⟩
    by_cases e : m + 1 ≤ lv
    · exact ⟨m + 1, e, hR4⟩
    · have : m = lv := by omega
      subst this
      exact h x s x0 x1 s0 s1 hR4
def StF (c : mbCt) (β : Bk) (mk : Int → Int) (U : Nat) (cap tone : Int) (M : Nat) : Prop := ∀ x s, 0 ≤ x → x < 700 → 0 ≤ s → s < 2 ^ M → exF (c 101 (64 * x + s)) (RnR β mk U cap tone M x s)
end
