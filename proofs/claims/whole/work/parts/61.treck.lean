/-! the reference weighs a law -/
def wdF (f : Int → Int) (x : Int) : Int → Int := fun j => if j = 0 then x / 70 else if j = 1 then x / 7 % 10 else if j = 2 then (if x % 7 = 6 then 9 else x % 7) else f j
theorem mTr_push {op : Int} (h1 : -6 ≤ op) (h2 : op ≤ 999) : mTr op < 3000 ∧ 0 ≤ mTr op ∧ (0 ≤ op → mTr op = op) ∧ (op < 0 → mTr op = 999 - op) := by
  unfold mTr
  by_cases h : 0 ≤ op
  · rw [if_pos h]
    omega
  · rw [if_neg h, if_pos h1]
    omega
theorem mTr_op {op : Int} (h1 : -15 ≤ op) (h2 : op ≤ -7) : mTr op = 2993 - op := by
  unfold mTr
  rw [if_neg (by omega), if_neg (by omega)]
theorem drop_cons {l l2 : List Int} {i : Nat} {op : Int} (h : l.drop i = op :: l2) : l[i]? = some op ∧ l.drop (i + 1) = l2 := by
  refine ⟨?_, ?_⟩
  · have := congrArg (fun z => z[0]?) h
    simpa using this
  · rw [← List.drop_drop, h]
    rfl
theorem dX12_reckons_0 : decode cX12_reckons 0 = .ok (.aload_n 0, 1) := by decide +kernel
theorem dX12_reckons_1 : decode cX12_reckons 1 = .ok (.getfield 33, 3) := by decide +kernel
theorem dX12_reckons_4 : decode cX12_reckons 4 = .ok (.iconst 0, 1) := by decide +kernel
theorem dX12_reckons_5 : decode cX12_reckons 5 = .ok (.iload_n 2, 1) := by decide +kernel
theorem dX12_reckons_6 : decode cX12_reckons 6 = .ok (.invokestatic 231, 3) := by decide +kernel
theorem dX12_reckons_9 : decode cX12_reckons 9 = .ok (.iastore, 1) := by decide +kernel
theorem dX12_reckons_10 : decode cX12_reckons 10 = .ok (.aload_n 0, 1) := by decide +kernel
theorem dX12_reckons_11 : decode cX12_reckons 11 = .ok (.getfield 33, 3) := by decide +kernel
theorem dX12_reckons_14 : decode cX12_reckons 14 = .ok (.iconst 1, 1) := by decide +kernel
theorem dX12_reckons_15 : decode cX12_reckons 15 = .ok (.iload_n 2, 1) := by decide +kernel
theorem dX12_reckons_16 : decode cX12_reckons 16 = .ok (.invokestatic 234, 3) := by decide +kernel
theorem dX12_reckons_19 : decode cX12_reckons 19 = .ok (.iastore, 1) := by decide +kernel
theorem dX12_reckons_20 : decode cX12_reckons 20 = .ok (.aload_n 0, 1) := by decide +kernel
theorem dX12_reckons_21 : decode cX12_reckons 21 = .ok (.getfield 33, 3) := by decide +kernel
theorem dX12_reckons_24 : decode cX12_reckons 24 = .ok (.iconst 2, 1) := by decide +kernel
theorem dX12_reckons_25 : decode cX12_reckons 25 = .ok (.iload_n 2, 1) := by decide +kernel
theorem dX12_reckons_26 : decode cX12_reckons 26 = .ok (.bipush 7, 2) := by decide +kernel
theorem dX12_reckons_28 : decode cX12_reckons 28 = .ok (.irem, 1) := by decide +kernel
theorem dX12_reckons_29 : decode cX12_reckons 29 = .ok (.bipush 6, 2) := by decide +kernel
theorem dX12_reckons_31 : decode cX12_reckons 31 = .ok (.if_icmp .ne 8, 3) := by decide +kernel
theorem dX12_reckons_34 : decode cX12_reckons 34 = .ok (.bipush 9, 2) := by decide +kernel
theorem dX12_reckons_36 : decode cX12_reckons 36 = .ok (.goto 7, 3) := by decide +kernel
theorem dX12_reckons_39 : decode cX12_reckons 39 = .ok (.iload_n 2, 1) := by decide +kernel
theorem dX12_reckons_40 : decode cX12_reckons 40 = .ok (.bipush 7, 2) := by decide +kernel
theorem dX12_reckons_42 : decode cX12_reckons 42 = .ok (.irem, 1) := by decide +kernel
theorem dX12_reckons_43 : decode cX12_reckons 43 = .ok (.iastore, 1) := by decide +kernel
theorem dX12_reckons_44 : decode cX12_reckons 44 = .ok (.iconst 0, 1) := by decide +kernel
theorem dX12_reckons_45 : decode cX12_reckons 45 = .ok (.istore_n 3, 1) := by decide +kernel
theorem dX12_reckons_46 : decode cX12_reckons 46 = .ok (.iconst 0, 1) := by decide +kernel
theorem dX12_reckons_47 : decode cX12_reckons 47 = .ok (.istore 4, 2) := by decide +kernel
theorem dX12_reckons_49 : decode cX12_reckons 49 = .ok (.iload 4, 2) := by decide +kernel
theorem dX12_reckons_51 : decode cX12_reckons 51 = .ok (.aload_n 0, 1) := by decide +kernel
theorem dX12_reckons_52 : decode cX12_reckons 52 = .ok (.getfield 13, 3) := by decide +kernel
theorem dX12_reckons_55 : decode cX12_reckons 55 = .ok (.bipush 10, 2) := by decide +kernel
theorem dX12_reckons_57 : decode cX12_reckons 57 = .ok (.iload_n 1, 1) := by decide +kernel
theorem dX12_reckons_58 : decode cX12_reckons 58 = .ok (.iadd, 1) := by decide +kernel
theorem dX12_reckons_59 : decode cX12_reckons 59 = .ok (.iaload, 1) := by decide +kernel
theorem dX12_reckons_60 : decode cX12_reckons 60 = .ok (.if_icmp .ge 135, 3) := by decide +kernel
theorem dX12_reckons_63 : decode cX12_reckons 63 = .ok (.aload_n 0, 1) := by decide +kernel
theorem dX12_reckons_64 : decode cX12_reckons 64 = .ok (.getfield 13, 3) := by decide +kernel
theorem dX12_reckons_67 : decode cX12_reckons 67 = .ok (.sipush 140, 3) := by decide +kernel
theorem dX12_reckons_70 : decode cX12_reckons 70 = .ok (.aload_n 0, 1) := by decide +kernel
theorem dX12_reckons_71 : decode cX12_reckons 71 = .ok (.getfield 13, 3) := by decide +kernel
theorem dX12_reckons_74 : decode cX12_reckons 74 = .ok (.bipush 8, 2) := by decide +kernel
theorem dX12_reckons_76 : decode cX12_reckons 76 = .ok (.iload_n 1, 1) := by decide +kernel
theorem dX12_reckons_77 : decode cX12_reckons 77 = .ok (.iadd, 1) := by decide +kernel
theorem dX12_reckons_78 : decode cX12_reckons 78 = .ok (.iaload, 1) := by decide +kernel
theorem dX12_reckons_79 : decode cX12_reckons 79 = .ok (.iadd, 1) := by decide +kernel
theorem dX12_reckons_80 : decode cX12_reckons 80 = .ok (.iload 4, 2) := by decide +kernel
theorem dX12_reckons_82 : decode cX12_reckons 82 = .ok (.iadd, 1) := by decide +kernel
theorem dX12_reckons_83 : decode cX12_reckons 83 = .ok (.iaload, 1) := by decide +kernel
theorem dX12_reckons_84 : decode cX12_reckons 84 = .ok (.istore 5, 2) := by decide +kernel
theorem dX12_reckons_86 : decode cX12_reckons 86 = .ok (.iload 5, 2) := by decide +kernel
theorem dX12_reckons_88 : decode cX12_reckons 88 = .ok (.sipush 3000, 3) := by decide +kernel
theorem dX12_reckons_91 : decode cX12_reckons 91 = .ok (.if_icmp .ge 39, 3) := by decide +kernel
theorem dX12_reckons_94 : decode cX12_reckons 94 = .ok (.aload_n 0, 1) := by decide +kernel
theorem dX12_reckons_95 : decode cX12_reckons 95 = .ok (.getfield 30, 3) := by decide +kernel
theorem dX12_reckons_98 : decode cX12_reckons 98 = .ok (.iload_n 3, 1) := by decide +kernel
theorem dX12_reckons_99 : decode cX12_reckons 99 = .ok (.iload 5, 2) := by decide +kernel
theorem dX12_reckons_101 : decode cX12_reckons 101 = .ok (.sipush 1000, 3) := by decide +kernel
theorem dX12_reckons_104 : decode cX12_reckons 104 = .ok (.if_icmp .ge 8, 3) := by decide +kernel
theorem dX12_reckons_107 : decode cX12_reckons 107 = .ok (.iload 5, 2) := by decide +kernel
theorem dX12_reckons_109 : decode cX12_reckons 109 = .ok (.goto 14, 3) := by decide +kernel
theorem dX12_reckons_112 : decode cX12_reckons 112 = .ok (.aload_n 0, 1) := by decide +kernel
theorem dX12_reckons_113 : decode cX12_reckons 113 = .ok (.getfield 33, 3) := by decide +kernel
theorem dX12_reckons_116 : decode cX12_reckons 116 = .ok (.iload 5, 2) := by decide +kernel
theorem dX12_reckons_118 : decode cX12_reckons 118 = .ok (.sipush 1000, 3) := by decide +kernel
theorem dX12_reckons_121 : decode cX12_reckons 121 = .ok (.isub, 1) := by decide +kernel
theorem dX12_reckons_122 : decode cX12_reckons 122 = .ok (.iaload, 1) := by decide +kernel
theorem dX12_reckons_123 : decode cX12_reckons 123 = .ok (.iastore, 1) := by decide +kernel
theorem dX12_reckons_124 : decode cX12_reckons 124 = .ok (.iinc 3 1, 3) := by decide +kernel
theorem dX12_reckons_127 : decode cX12_reckons 127 = .ok (.goto 62, 3) := by decide +kernel
theorem dX12_reckons_130 : decode cX12_reckons 130 = .ok (.iload 5, 2) := by decide +kernel
theorem dX12_reckons_132 : decode cX12_reckons 132 = .ok (.sipush 3006, 3) := by decide +kernel
theorem dX12_reckons_135 : decode cX12_reckons 135 = .ok (.if_icmp .ne 24, 3) := by decide +kernel
theorem dX12_reckons_138 : decode cX12_reckons 138 = .ok (.aload_n 0, 1) := by decide +kernel
theorem dX12_reckons_139 : decode cX12_reckons 139 = .ok (.getfield 30, 3) := by decide +kernel
theorem dX12_reckons_142 : decode cX12_reckons 142 = .ok (.iload_n 3, 1) := by decide +kernel
theorem dX12_reckons_143 : decode cX12_reckons 143 = .ok (.iconst 1, 1) := by decide +kernel
theorem dX12_reckons_144 : decode cX12_reckons 144 = .ok (.isub, 1) := by decide +kernel
theorem dX12_reckons_145 : decode cX12_reckons 145 = .ok (.iconst 1, 1) := by decide +kernel
theorem dX12_reckons_146 : decode cX12_reckons 146 = .ok (.aload_n 0, 1) := by decide +kernel
theorem dX12_reckons_147 : decode cX12_reckons 147 = .ok (.getfield 30, 3) := by decide +kernel
theorem dX12_reckons_150 : decode cX12_reckons 150 = .ok (.iload_n 3, 1) := by decide +kernel
theorem dX12_reckons_151 : decode cX12_reckons 151 = .ok (.iconst 1, 1) := by decide +kernel
theorem dX12_reckons_152 : decode cX12_reckons 152 = .ok (.isub, 1) := by decide +kernel
theorem dX12_reckons_153 : decode cX12_reckons 153 = .ok (.iaload, 1) := by decide +kernel
theorem dX12_reckons_154 : decode cX12_reckons 154 = .ok (.isub, 1) := by decide +kernel
theorem dX12_reckons_155 : decode cX12_reckons 155 = .ok (.iastore, 1) := by decide +kernel
theorem dX12_reckons_156 : decode cX12_reckons 156 = .ok (.goto 33, 3) := by decide +kernel
theorem dX12_reckons_159 : decode cX12_reckons 159 = .ok (.iinc 3 (-1), 3) := by decide +kernel
theorem dX12_reckons_162 : decode cX12_reckons 162 = .ok (.aload_n 0, 1) := by decide +kernel
theorem dX12_reckons_163 : decode cX12_reckons 163 = .ok (.getfield 30, 3) := by decide +kernel
theorem dX12_reckons_166 : decode cX12_reckons 166 = .ok (.iload_n 3, 1) := by decide +kernel
theorem dX12_reckons_167 : decode cX12_reckons 167 = .ok (.iconst 1, 1) := by decide +kernel
theorem dX12_reckons_168 : decode cX12_reckons 168 = .ok (.isub, 1) := by decide +kernel
theorem dX12_reckons_169 : decode cX12_reckons 169 = .ok (.iload 5, 2) := by decide +kernel
theorem dX12_reckons_171 : decode cX12_reckons 171 = .ok (.aload_n 0, 1) := by decide +kernel
theorem dX12_reckons_172 : decode cX12_reckons 172 = .ok (.getfield 30, 3) := by decide +kernel
theorem dX12_reckons_175 : decode cX12_reckons 175 = .ok (.iload_n 3, 1) := by decide +kernel
theorem dX12_reckons_176 : decode cX12_reckons 176 = .ok (.iconst 1, 1) := by decide +kernel
theorem dX12_reckons_177 : decode cX12_reckons 177 = .ok (.isub, 1) := by decide +kernel
theorem dX12_reckons_178 : decode cX12_reckons 178 = .ok (.iaload, 1) := by decide +kernel
theorem dX12_reckons_179 : decode cX12_reckons 179 = .ok (.aload_n 0, 1) := by decide +kernel
theorem dX12_reckons_180 : decode cX12_reckons 180 = .ok (.getfield 30, 3) := by decide +kernel
theorem dX12_reckons_183 : decode cX12_reckons 183 = .ok (.iload_n 3, 1) := by decide +kernel
theorem dX12_reckons_184 : decode cX12_reckons 184 = .ok (.iaload, 1) := by decide +kernel
theorem dX12_reckons_185 : decode cX12_reckons 185 = .ok (.invokestatic 237, 3) := by decide +kernel
theorem dX12_reckons_188 : decode cX12_reckons 188 = .ok (.iastore, 1) := by decide +kernel
theorem dX12_reckons_189 : decode cX12_reckons 189 = .ok (.iinc 4 1, 3) := by decide +kernel
theorem dX12_reckons_192 : decode cX12_reckons 192 = .ok (.goto (-143), 3) := by decide +kernel
theorem dX12_reckons_195 : decode cX12_reckons 195 = .ok (.aload_n 0, 1) := by decide +kernel
theorem dX12_reckons_196 : decode cX12_reckons 196 = .ok (.getfield 30, 3) := by decide +kernel
theorem dX12_reckons_199 : decode cX12_reckons 199 = .ok (.iconst 0, 1) := by decide +kernel
theorem dX12_reckons_200 : decode cX12_reckons 200 = .ok (.iaload, 1) := by decide +kernel
theorem dX12_reckons_201 : decode cX12_reckons 201 = .ok (.ireturn, 1) := by decide +kernel
theorem dX12_wouldBy_0 : decode cX12_wouldBy 0 = .ok (.aload_n 0, 1) := by decide +kernel
theorem dX12_wouldBy_1 : decode cX12_wouldBy 1 = .ok (.getfield 13, 3) := by decide +kernel
theorem dX12_wouldBy_4 : decode cX12_wouldBy 4 = .ok (.bipush 6, 2) := by decide +kernel
theorem dX12_wouldBy_6 : decode cX12_wouldBy 6 = .ok (.iaload, 1) := by decide +kernel
theorem dX12_wouldBy_7 : decode cX12_wouldBy 7 = .ok (.ifCond .ne 5, 3) := by decide +kernel
theorem dX12_wouldBy_10 : decode cX12_wouldBy 10 = .ok (.iconst 1, 1) := by decide +kernel
theorem dX12_wouldBy_11 : decode cX12_wouldBy 11 = .ok (.ireturn, 1) := by decide +kernel
theorem dX12_wouldBy_12 : decode cX12_wouldBy 12 = .ok (.aload_n 0, 1) := by decide +kernel
theorem dX12_wouldBy_13 : decode cX12_wouldBy 13 = .ok (.getfield 33, 3) := by decide +kernel
theorem dX12_wouldBy_16 : decode cX12_wouldBy 16 = .ok (.iconst 3, 1) := by decide +kernel
theorem dX12_wouldBy_17 : decode cX12_wouldBy 17 = .ok (.iload_n 2, 1) := by decide +kernel
theorem dX12_wouldBy_18 : decode cX12_wouldBy 18 = .ok (.iastore, 1) := by decide +kernel
theorem dX12_wouldBy_19 : decode cX12_wouldBy 19 = .ok (.aload_n 0, 1) := by decide +kernel
theorem dX12_wouldBy_20 : decode cX12_wouldBy 20 = .ok (.getfield 33, 3) := by decide +kernel
theorem dX12_wouldBy_23 : decode cX12_wouldBy 23 = .ok (.iconst 4, 1) := by decide +kernel
theorem dX12_wouldBy_24 : decode cX12_wouldBy 24 = .ok (.iload 4, 2) := by decide +kernel
theorem dX12_wouldBy_26 : decode cX12_wouldBy 26 = .ok (.iastore, 1) := by decide +kernel
theorem dX12_wouldBy_27 : decode cX12_wouldBy 27 = .ok (.aload_n 0, 1) := by decide +kernel
theorem dX12_wouldBy_28 : decode cX12_wouldBy 28 = .ok (.getfield 33, 3) := by decide +kernel
theorem dX12_wouldBy_31 : decode cX12_wouldBy 31 = .ok (.iconst 5, 1) := by decide +kernel
theorem dX12_wouldBy_32 : decode cX12_wouldBy 32 = .ok (.iload_n 3, 1) := by decide +kernel
theorem dX12_wouldBy_33 : decode cX12_wouldBy 33 = .ok (.iastore, 1) := by decide +kernel
theorem dX12_wouldBy_34 : decode cX12_wouldBy 34 = .ok (.aload_n 0, 1) := by decide +kernel
theorem dX12_wouldBy_35 : decode cX12_wouldBy 35 = .ok (.iconst 0, 1) := by decide +kernel
theorem dX12_wouldBy_36 : decode cX12_wouldBy 36 = .ok (.iload_n 1, 1) := by decide +kernel
theorem dX12_wouldBy_37 : decode cX12_wouldBy 37 = .ok (.invokevirtual 241, 3) := by decide +kernel
theorem dX12_wouldBy_40 : decode cX12_wouldBy 40 = .ok (.iconst 1, 1) := by decide +kernel
theorem dX12_wouldBy_41 : decode cX12_wouldBy 41 = .ok (.if_icmp .ne 7, 3) := by decide +kernel
theorem dX12_wouldBy_44 : decode cX12_wouldBy 44 = .ok (.iconst 1, 1) := by decide +kernel
theorem dX12_wouldBy_45 : decode cX12_wouldBy 45 = .ok (.goto 4, 3) := by decide +kernel
theorem dX12_wouldBy_48 : decode cX12_wouldBy 48 = .ok (.iconst 0, 1) := by decide +kernel
theorem dX12_wouldBy_49 : decode cX12_wouldBy 49 = .ok (.ireturn, 1) := by decide +kernel
theorem dX12_wouldSay_0 : decode cX12_wouldSay 0 = .ok (.aload_n 0, 1) := by decide +kernel
theorem dX12_wouldSay_1 : decode cX12_wouldSay 1 = .ok (.iload_n 1, 1) := by decide +kernel
theorem dX12_wouldSay_2 : decode cX12_wouldSay 2 = .ok (.iload_n 2, 1) := by decide +kernel
theorem dX12_wouldSay_3 : decode cX12_wouldSay 3 = .ok (.iload_n 3, 1) := by decide +kernel
theorem dX12_wouldSay_4 : decode cX12_wouldSay 4 = .ok (.aload_n 0, 1) := by decide +kernel
theorem dX12_wouldSay_5 : decode cX12_wouldSay 5 = .ok (.getfield 13, 3) := by decide +kernel
theorem dX12_wouldSay_8 : decode cX12_wouldSay 8 = .ok (.bipush 32, 2) := by decide +kernel
theorem dX12_wouldSay_10 : decode cX12_wouldSay 10 = .ok (.iload_n 2, 1) := by decide +kernel
theorem dX12_wouldSay_11 : decode cX12_wouldSay 11 = .ok (.iadd, 1) := by decide +kernel
theorem dX12_wouldSay_12 : decode cX12_wouldSay 12 = .ok (.iaload, 1) := by decide +kernel
theorem dX12_wouldSay_13 : decode cX12_wouldSay 13 = .ok (.invokevirtual 244, 3) := by decide +kernel
theorem dX12_wouldSay_16 : decode cX12_wouldSay 16 = .ok (.ireturn, 1) := by decide +kernel
theorem dX12_isClosed_0 : decode cX12_isClosed 0 = .ok (.aload_n 0, 1) := by decide +kernel
theorem dX12_isClosed_1 : decode cX12_isClosed 1 = .ok (.getfield 13, 3) := by decide +kernel
theorem dX12_isClosed_4 : decode cX12_isClosed 4 = .ok (.bipush 7, 2) := by decide +kernel
theorem dX12_isClosed_6 : decode cX12_isClosed 6 = .ok (.iaload, 1) := by decide +kernel
theorem dX12_isClosed_7 : decode cX12_isClosed 7 = .ok (.ifCond .ne 18, 3) := by decide +kernel
theorem dX12_isClosed_10 : decode cX12_isClosed 10 = .ok (.iload_n 1, 1) := by decide +kernel
theorem dX12_isClosed_11 : decode cX12_isClosed 11 = .ok (.invokestatic 234, 3) := by decide +kernel
theorem dX12_isClosed_14 : decode cX12_isClosed 14 = .ok (.ifCond .ne 7, 3) := by decide +kernel
theorem dX12_isClosed_17 : decode cX12_isClosed 17 = .ok (.iconst 1, 1) := by decide +kernel
theorem dX12_isClosed_18 : decode cX12_isClosed 18 = .ok (.goto 22, 3) := by decide +kernel
theorem dX12_isClosed_21 : decode cX12_isClosed 21 = .ok (.iconst 0, 1) := by decide +kernel
theorem dX12_isClosed_22 : decode cX12_isClosed 22 = .ok (.goto 18, 3) := by decide +kernel
theorem dX12_isClosed_25 : decode cX12_isClosed 25 = .ok (.aload_n 0, 1) := by decide +kernel
theorem dX12_isClosed_26 : decode cX12_isClosed 26 = .ok (.iconst 1, 1) := by decide +kernel
theorem dX12_isClosed_27 : decode cX12_isClosed 27 = .ok (.iload_n 1, 1) := by decide +kernel
theorem dX12_isClosed_28 : decode cX12_isClosed 28 = .ok (.invokevirtual 241, 3) := by decide +kernel
theorem dX12_isClosed_31 : decode cX12_isClosed 31 = .ok (.iconst 1, 1) := by decide +kernel
theorem dX12_isClosed_32 : decode cX12_isClosed 32 = .ok (.if_icmp .ne 7, 3) := by decide +kernel
theorem dX12_isClosed_35 : decode cX12_isClosed 35 = .ok (.iconst 1, 1) := by decide +kernel
theorem dX12_isClosed_36 : decode cX12_isClosed 36 = .ok (.goto 4, 3) := by decide +kernel
theorem dX12_isClosed_39 : decode cX12_isClosed 39 = .ok (.iconst 0, 1) := by decide +kernel
theorem dX12_isClosed_40 : decode cX12_isClosed 40 = .ok (.ireturn, 1) := by decide +kernel
section
variable (d : Nat) (sh : mbSh) (ct : mbCt) {β : Bk} {mk : Int → Int} {st : Int}
set_option maxRecDepth 4000 in
theorem tw_reckons {law x : Int} {l : List Int} {ask : Int → Int} (S : SH sh) (L : LK ct) (hl : law = 0 ∨ law = 1) (hm : mLaw (ct 93) 0 law l) (hne : l ≠ []) (h0 : 0 ≤ x) (h1 : x < 700) (ha : askOk ask) (hw : ∀ op ∈ l, -6 ≤ op → op < 0 → wdF (ct 98) x (-1 - op) = ask (-1 - op)) : Mt YX12_reckons (d + 1) [.inr (.inr 92), .inl law, .inl x] sh sh ct (pI fun r c => r = b01 (semL ask l [] = [1]) ∧ eqBut [97, 98] ct c) := by
  have s97 : shA sh 97 = some (20, 900) := S.at _ rfl
  have s98 : shA sh 98 = some (20, 6) := S.at _ rfl
  have s93 : shA sh 93 = some (20, 3120) := S.at _ rfl
  obtain ⟨m1, m2, m3, m4, m5, m6⟩ := hm
  simp only [Int.zero_add] at m1 m2 m3 m4 m5
  have m7 : typL l [] = some [true] := m6.resolve_left hne
  generalize hT : semL ask l [] = T
  generalize hP : (pI fun r c => r = b01 (T = [1]) ∧ eqBut [97, 98] ct c) = Po
  have loop : ∀ (l2 : List Int) (i : Nat) (ts : List Bool) (st : List Int) (c : mbCt) (o5 : Option gV), l.drop i = l2 → i + l2.length = l.length → typL l2 ts = some [true] → semL ask l2 st = T → okT ts st → stkAt (c 97) st → ts.length ≤ 64 → eqBut [97, 98] ct c → c 98 = wdF (ct 98) x → G (mkK YX12_reckons (d + 1) sh sh Po) 49 [some (.inr (.inr 92)), some (.inl law), some (.inl x), some (.inl (st.length : Int)), some (.inl i), o5] [] sh c := by
    intro l2
    induction l2 with
    | nil =>
      intro i ts st c o5 hd hi hty hse hok hst hle hc h98
      have L2 : LK c := L.eb hc rfl
      have e93 : c 93 = ct 93 := hc 93 (by decide)
      have hts : ts = [true] := Option.some.inj hty
      subst hts
      have hv : ∃ v, st = [v] ∧ (v = 0 ∨ v = 1) := by
        match st, hok with
        | [v], hok => exact ⟨v, rfl, hok.1⟩
        | [], hok => exact hok.elim
        | _ :: _ :: _, hok => exact hok.2.elim
      obtain ⟨v, rfl, hv01⟩ := hv
      have hc0 : c 97 0 = v := hst.1
      have hT' : T = [v] := hse.symm
      simp at hi
      refine g_iload (q := 51) dX12_reckons_49 rfl rfl ?_
      refine g_aload_n (q := 52) dX12_reckons_51 rfl rfl ?_
      refine g_getA (q := 55) (kI := 1) fX12_13 (by first | assumption | exact S.at _ rfl) dX12_reckons_52 rfl rfl (by first | assumption | exact L.at _ _ rfl | exact LK.at (by assumption) _ _ rfl | ((repeat first | rewrite [wr_na (by decide)] | rewrite [wr_nk (by decide)] | rewrite [wa_na (by decide)]); first | assumption | exact LK.at (by assumption) _ _ rfl) | exact rfl) ?_
      refine g_bipush (q := 57) dX12_reckons_55 (by decide +kernel) rfl ?_
      refine g_iload_n (q := 58) dX12_reckons_57 rfl rfl ?_
      refine g_iadd (q := 59) dX12_reckons_58 rfl ?_
      refine g_iaload (q := 60) (by first | assumption | exact S.at _ rfl) (by omega) (by omega) (by omega) dX12_reckons_59 rfl ?_
      refine g_icmp_ge (q := 63) (tg := 195) dX12_reckons_60 (by decide) rfl (fun c_60 => ?_) (fun c_60 => ?_)
      · refine g_aload_n (q := 196) dX12_reckons_195 rfl rfl ?_
        refine g_getA (q := 199) (kI := 16) fX12_30 (by first | assumption | exact S.at _ rfl) dX12_reckons_196 rfl rfl (by first | assumption | exact L.at _ _ rfl | exact LK.at (by assumption) _ _ rfl | ((repeat first | rewrite [wr_na (by decide)] | rewrite [wr_nk (by decide)] | rewrite [wa_na (by decide)]); first | assumption | exact LK.at (by assumption) _ _ rfl) | exact rfl) ?_
        refine g_iconst (q := 200) dX12_reckons_199 rfl ?_
        refine g_iaload (q := 201) (by first | assumption | exact S.at _ rfl) (by omega) (by omega) (by omega) dX12_reckons_200 rfl ?_
        refine g_ireturn dX12_reckons_201 rfl ?_
        rw [← hP]
        refine ⟨_, rfl, ?_, hc⟩
        rw [hc0, hT']
        rcases hv01 with rfl | rfl
        · exact b01_f (by simp)
        · exact b01_t rfl
      · rw [e93, m2] at c_60
        exact absurd c_60 (by unfold w32; omega)
    | cons op l2 ih =>
      intro i ts st c o5 hd hi hty hse hok hst hle hc h98
      have L2 : LK c := L.eb hc rfl
      have e93 : c 93 = ct 93 := hc 93 (by decide)
      obtain ⟨hop, hd2⟩ := drop_cons hd
      have hmem : op ∈ l := List.mem_of_getElem? hop
      have hil : i < l.length := (List.getElem?_eq_some_iff.mp hop).1
      have hcode := m5 i op hop
      obtain ⟨ts', hs1, hs2⟩ := typL_cons hty
      have hok' := semS_ok ha hs1 hok
      have hlen := okT_len ts st hok
      have hse' : semL ask l2 (semS ask op st) = T := hse
      have hi2 : i + 1 + l2.length = l.length := by simp at hi; omega
      have tail : ∀ (st2 : List Int) (c2 : mbCt), st2 = semS ask op st → eqBut [97, 98] ct c2 → c2 98 = wdF (ct 98) x → stkAt (c2 97) st2 → ts'.length ≤ 64 → G (mkK YX12_reckons (d + 1) sh sh Po) 189 [some (.inr (.inr 92)), some (.inl law), some (.inl x), some (.inl (st2.length : Int)), some (.inl i), some (.inl (mTr op))] [] sh c2 := by
        intro st2 c2 e1 e2 e3 e4 e5
        refine s_iinc_6_4 (q := 192) dX12_reckons_189 rfl rfl rfl ?_
        refine g_goto (q := 49) dX12_reckons_192 (by decide) ?_
        subst e1
        have := ih (i + 1) ts' (semS ask op st) c2 (some (.inl (mTr op))) hd2 hi2 hs2 hse' hok' e4 e5 e2 e3
        exact this
      refine g_iload (q := 51) dX12_reckons_49 rfl rfl ?_
      refine g_aload_n (q := 52) dX12_reckons_51 rfl rfl ?_
      refine g_getA (q := 55) (kI := 1) fX12_13 (by first | assumption | exact S.at _ rfl) dX12_reckons_52 rfl rfl (by first | assumption | exact L.at _ _ rfl | exact LK.at (by assumption) _ _ rfl | ((repeat first | rewrite [wr_na (by decide)] | rewrite [wr_nk (by decide)] | rewrite [wa_na (by decide)]); first | assumption | exact LK.at (by assumption) _ _ rfl) | exact rfl) ?_
      refine g_bipush (q := 57) dX12_reckons_55 (by decide +kernel) rfl ?_
      refine g_iload_n (q := 58) dX12_reckons_57 rfl rfl ?_
      refine g_iadd (q := 59) dX12_reckons_58 rfl ?_
      refine g_iaload (q := 60) (by first | assumption | exact S.at _ rfl) (by omega) (by omega) (by omega) dX12_reckons_59 rfl ?_
      refine g_icmp_ge (q := 63) (tg := 195) dX12_reckons_60 (by decide) rfl (fun c_60 => ?_) (fun c_60 => ?_)
      · rw [e93, m2] at c_60
        exact absurd c_60 (by unfold w32; omega)
      · refine g_aload_n (q := 64) dX12_reckons_63 rfl rfl ?_
        refine g_getA (q := 67) (kI := 1) fX12_13 (by first | assumption | exact S.at _ rfl) dX12_reckons_64 rfl rfl (by first | assumption | exact L.at _ _ rfl | exact LK.at (by assumption) _ _ rfl | ((repeat first | rewrite [wr_na (by decide)] | rewrite [wr_nk (by decide)] | rewrite [wa_na (by decide)]); first | assumption | exact LK.at (by assumption) _ _ rfl) | exact rfl) ?_
        refine g_sipush (q := 70) dX12_reckons_67 (by decide +kernel) rfl ?_
        refine g_aload_n (q := 71) dX12_reckons_70 rfl rfl ?_
        refine g_getA (q := 74) (kI := 1) fX12_13 (by first | assumption | exact S.at _ rfl) dX12_reckons_71 rfl rfl (by first | assumption | exact L.at _ _ rfl | exact LK.at (by assumption) _ _ rfl | ((repeat first | rewrite [wr_na (by decide)] | rewrite [wr_nk (by decide)] | rewrite [wa_na (by decide)]); first | assumption | exact LK.at (by assumption) _ _ rfl) | exact rfl) ?_
        refine g_bipush (q := 76) dX12_reckons_74 (by decide +kernel) rfl ?_
        refine g_iload_n (q := 77) dX12_reckons_76 rfl rfl ?_
        refine g_iadd (q := 78) dX12_reckons_77 rfl ?_
        refine g_iaload (q := 79) (by first | assumption | exact S.at _ rfl) (by omega) (by omega) (by omega) dX12_reckons_78 rfl ?_
        rw [e93]
        refine g_iadd (q := 80) dX12_reckons_79 rfl ?_
        refine g_iload (q := 82) dX12_reckons_80 rfl rfl ?_
        refine g_iadd (q := 83) dX12_reckons_82 rfl ?_
        refine g_iaload (q := 84) (by first | assumption | exact S.at _ rfl) (by omega) (by omega) (by omega) dX12_reckons_83 rfl ?_
        rw [e93, hcode]
        rcases typS_cases hs1 with ⟨p1, p2, p3, rfl⟩ | ⟨rfl, r, rfl, rfl⟩ | ⟨p1, p2, p3, x', y', r, z, rfl, rfl, p4, p5⟩
        · have hp := mTr_push p1 p2
          have sem1 : semS ask op st = (if 0 ≤ op then op else ask (-1 - op)) :: st := by
            unfold semS
            rw [if_pos ⟨p1, p2⟩]
          have nxt := tail ((if 0 ≤ op then op else ask (-1 - op)) :: st) (wr c 97 st.length (if 0 ≤ op then op else ask (-1 - op))) sem1.symm (hc.wr (by decide)) (by rw [wr_other _ _ _ _ _ (by decide)]; exact h98) ⟨wr_eq, stkAt_up hst (fun j hj => by unfold wr; rw [if_neg (by omega)])⟩ (by simp; omega)
          rw [show (((if 0 ≤ op then op else ask (-1 - op)) :: st).length : Int) = (st.length : Int) + 1 by simp] at nxt
          refine s_istore_6_5 (q := 86) dX12_reckons_84 rfl rfl rfl ?_
          refine g_iload (q := 88) dX12_reckons_86 rfl rfl ?_
          refine g_sipush (q := 91) dX12_reckons_88 (by decide +kernel) rfl ?_
          refine g_icmp_ge (q := 94) (tg := 130) dX12_reckons_91 (by decide) rfl (fun c_91 => ?_) (fun c_91 => ?_)
          · exact absurd c_91 (by unfold w32; omega)
          · refine g_aload_n (q := 95) dX12_reckons_94 rfl rfl ?_
            refine g_getA (q := 98) (kI := 16) fX12_30 (by first | assumption | exact S.at _ rfl) dX12_reckons_95 rfl rfl (by first | assumption | exact L.at _ _ rfl | exact LK.at (by assumption) _ _ rfl | ((repeat first | rewrite [wr_na (by decide)] | rewrite [wr_nk (by decide)] | rewrite [wa_na (by decide)]); first | assumption | exact LK.at (by assumption) _ _ rfl) | exact rfl) ?_
            refine g_iload_n (q := 99) dX12_reckons_98 rfl rfl ?_
            refine g_iload (q := 101) dX12_reckons_99 rfl rfl ?_
            refine g_sipush (q := 104) dX12_reckons_101 (by decide +kernel) rfl ?_
            refine g_icmp_ge (q := 107) (tg := 112) dX12_reckons_104 (by decide) rfl (fun c_104 => ?_) (fun c_104 => ?_)
            · have hlt : op < 0 := by
                have := hp.2.2.1
                unfold w32 at c_104
                omega
              rw [if_neg (by omega)] at nxt
              have e1 : mTr op - 1000 = -1 - op := by rw [hp.2.2.2 hlt]; omega
              have e2 : c 98 (-1 - op) = ask (-1 - op) := by rw [h98]; exact hw op hmem p1 hlt
              refine g_aload_n (q := 113) dX12_reckons_112 rfl rfl ?_
              refine g_getA (q := 116) (kI := 17) fX12_33 (by first | assumption | exact S.at _ rfl) dX12_reckons_113 rfl rfl (by first | assumption | exact L.at _ _ rfl | exact LK.at (by assumption) _ _ rfl | ((repeat first | rewrite [wr_na (by decide)] | rewrite [wr_nk (by decide)] | rewrite [wa_na (by decide)]); first | assumption | exact LK.at (by assumption) _ _ rfl) | exact rfl) ?_
              refine g_iload (q := 118) dX12_reckons_116 rfl rfl ?_
              refine g_sipush (q := 121) dX12_reckons_118 (by decide +kernel) rfl ?_
              refine g_isub (q := 122) dX12_reckons_121 rfl ?_
              rw [e1]
              refine g_iaload (q := 123) (by first | assumption | exact S.at _ rfl) (by omega) (by omega) (by omega) dX12_reckons_122 rfl ?_
              rw [e2]
              refine g_iastore (q := 124) (by first | assumption | exact S.at _ rfl) (by omega) (by omega) (by omega) dX12_reckons_123 rfl ?_
              refine s_iinc_6_3 (q := 127) dX12_reckons_124 rfl rfl rfl ?_
              refine g_goto (q := 189) dX12_reckons_127 (by decide) ?_
              exact nxt
            · have hge : 0 ≤ op := by
                have := hp.2.2.2
                unfold w32 at c_104
                omega
              rw [if_pos hge] at nxt
              rw [hp.2.2.1 hge] at nxt c_104 ⊢
              refine g_iload (q := 109) dX12_reckons_107 rfl rfl ?_
              refine g_goto (q := 123) dX12_reckons_109 (by decide) ?_
              refine g_iastore (q := 124) (by first | assumption | exact S.at _ rfl) (by omega) (by omega) (by omega) dX12_reckons_123 rfl ?_
              refine s_iinc_6_3 (q := 127) dX12_reckons_124 rfl rfl rfl ?_
              refine g_goto (q := 189) dX12_reckons_127 (by decide) ?_
              exact nxt
        · obtain ⟨v, st2, rfl⟩ : ∃ v st2, st = v :: st2 := by
            match st, hok with
            | v :: st2, _ => exact ⟨v, st2, rfl⟩
          have hv : c 97 st2.length = v := hst.1
          have e1 : (((v :: st2).length : Nat) : Int) - 1 = st2.length := by simp
          have hl2 : st2.length < 64 := by simp at hlen hle; omega
          have nxt := tail ((1 - v) :: st2) (wr c 97 st2.length (1 - v)) rfl (hc.wr (by decide)) (by rw [wr_other _ _ _ _ _ (by decide)]; exact h98) ⟨wr_eq, stkAt_up hst.2 (fun j hj => by unfold wr; rw [if_neg (by omega)])⟩ hle
          refine s_istore_6_5 (q := 86) dX12_reckons_84 rfl rfl rfl ?_
          refine g_iload (q := 88) dX12_reckons_86 rfl rfl ?_
          refine g_sipush (q := 91) dX12_reckons_88 (by decide +kernel) rfl ?_
          refine g_icmp_ge (q := 94) (tg := 130) dX12_reckons_91 (by decide) rfl (fun c_91 => ?_) (fun c_91 => ?_)
          · refine g_iload (q := 132) dX12_reckons_130 rfl rfl ?_
            refine g_sipush (q := 135) dX12_reckons_132 (by decide +kernel) rfl ?_
            refine g_icmp_ne (q := 138) (tg := 159) dX12_reckons_135 (by decide) rfl (fun c_135 => ?_) (fun c_135 => ?_)
            · exact absurd (by decide) c_135
            · refine g_aload_n (q := 139) dX12_reckons_138 rfl rfl ?_
              refine g_getA (q := 142) (kI := 16) fX12_30 (by first | assumption | exact S.at _ rfl) dX12_reckons_139 rfl rfl (by first | assumption | exact L.at _ _ rfl | exact LK.at (by assumption) _ _ rfl | ((repeat first | rewrite [wr_na (by decide)] | rewrite [wr_nk (by decide)] | rewrite [wa_na (by decide)]); first | assumption | exact LK.at (by assumption) _ _ rfl) | exact rfl) ?_
              refine g_iload_n (q := 143) dX12_reckons_142 rfl rfl ?_
              refine g_iconst (q := 144) dX12_reckons_143 rfl ?_
              refine g_isub (q := 145) dX12_reckons_144 rfl ?_
              rw [e1]
              refine g_iconst (q := 146) dX12_reckons_145 rfl ?_
              refine g_aload_n (q := 147) dX12_reckons_146 rfl rfl ?_
              refine g_getA (q := 150) (kI := 16) fX12_30 (by first | assumption | exact S.at _ rfl) dX12_reckons_147 rfl rfl (by first | assumption | exact L.at _ _ rfl | exact LK.at (by assumption) _ _ rfl | ((repeat first | rewrite [wr_na (by decide)] | rewrite [wr_nk (by decide)] | rewrite [wa_na (by decide)]); first | assumption | exact LK.at (by assumption) _ _ rfl) | exact rfl) ?_
              refine g_iload_n (q := 151) dX12_reckons_150 rfl rfl ?_
              refine g_iconst (q := 152) dX12_reckons_151 rfl ?_
              refine g_isub (q := 153) dX12_reckons_152 rfl ?_
              rw [e1]
              refine g_iaload (q := 154) (by first | assumption | exact S.at _ rfl) (by omega) (by omega) (by omega) dX12_reckons_153 rfl ?_
              rw [hv]
              refine g_isub (q := 155) dX12_reckons_154 rfl ?_
              refine g_iastore (q := 156) (by first | assumption | exact S.at _ rfl) (by omega) (by omega) (by omega) dX12_reckons_155 rfl ?_
              refine g_goto (q := 189) dX12_reckons_156 (by decide) ?_
              exact nxt
          · exact absurd c_91 (by decide)
        · obtain ⟨bb, a, st2, rfl, ho2, q1, q2, q3, q4⟩ := okT_2 hok
          have hbb : c 97 (st2.length + 1) = bb := by have := hst.1; simpa using this
          have haa : c 97 st2.length = a := hst.2.1
          have hl2 : (st2.length : Int) + 2 ≤ 64 := by simp at hlen hle; omega
          have e2 : ((((bb :: a :: st2).length : Nat) : Int) + -1) = st2.length + 1 := by simp; omega
          have e3 : (st2.length : Int) + 1 - 1 = st2.length := by omega
          have hmt := mTr_op p1 p2
          have sem2 : semS ask op (bb :: a :: st2) = opV op a bb :: st2 := by
            unfold semS
            rw [if_neg (by omega)]
            show (if op = -13 then _ else _) = _
            rw [if_neg p3]
          have nxt := tail (opV op a bb :: st2) (wr c 97 st2.length (opV op a bb)) sem2.symm (hc.wr (by decide)) (by rw [wr_other _ _ _ _ _ (by decide)]; exact h98) ⟨wr_eq, stkAt_up hst.2.2 (fun j hj => by unfold wr; rw [if_neg (by omega)])⟩ (by simp at hle ⊢; omega)
          rw [show ((opV op a bb :: st2).length : Int) = (st2.length : Int) + 1 by simp] at nxt
          refine s_istore_6_5 (q := 86) dX12_reckons_84 rfl rfl rfl ?_
          refine g_iload (q := 88) dX12_reckons_86 rfl rfl ?_
          refine g_sipush (q := 91) dX12_reckons_88 (by decide +kernel) rfl ?_
          refine g_icmp_ge (q := 94) (tg := 130) dX12_reckons_91 (by decide) rfl (fun c_91 => ?_) (fun c_91 => ?_)
          · refine g_iload (q := 132) dX12_reckons_130 rfl rfl ?_
            refine g_sipush (q := 135) dX12_reckons_132 (by decide +kernel) rfl ?_
            refine g_icmp_ne (q := 138) (tg := 159) dX12_reckons_135 (by decide) rfl (fun c_135 => ?_) (fun c_135 => ?_)
            · refine s_iinc_6_3 (q := 162) dX12_reckons_159 rfl rfl rfl ?_
              rw [e2]
              refine g_aload_n (q := 163) dX12_reckons_162 rfl rfl ?_
              refine g_getA (q := 166) (kI := 16) fX12_30 (by first | assumption | exact S.at _ rfl) dX12_reckons_163 rfl rfl (by first | assumption | exact L.at _ _ rfl | exact LK.at (by assumption) _ _ rfl | ((repeat first | rewrite [wr_na (by decide)] | rewrite [wr_nk (by decide)] | rewrite [wa_na (by decide)]); first | assumption | exact LK.at (by assumption) _ _ rfl) | exact rfl) ?_
              refine g_iload_n (q := 167) dX12_reckons_166 rfl rfl ?_
              refine g_iconst (q := 168) dX12_reckons_167 rfl ?_
              refine g_isub (q := 169) dX12_reckons_168 rfl ?_
              rw [e3]
              refine g_iload (q := 171) dX12_reckons_169 rfl rfl ?_
              refine g_aload_n (q := 172) dX12_reckons_171 rfl rfl ?_
              refine g_getA (q := 175) (kI := 16) fX12_30 (by first | assumption | exact S.at _ rfl) dX12_reckons_172 rfl rfl (by first | assumption | exact L.at _ _ rfl | exact LK.at (by assumption) _ _ rfl | ((repeat first | rewrite [wr_na (by decide)] | rewrite [wr_nk (by decide)] | rewrite [wa_na (by decide)]); first | assumption | exact LK.at (by assumption) _ _ rfl) | exact rfl) ?_
              refine g_iload_n (q := 176) dX12_reckons_175 rfl rfl ?_
              refine g_iconst (q := 177) dX12_reckons_176 rfl ?_
              refine g_isub (q := 178) dX12_reckons_177 rfl ?_
              rw [e3]
              refine g_iaload (q := 179) (by first | assumption | exact S.at _ rfl) (by omega) (by omega) (by omega) dX12_reckons_178 rfl ?_
              rw [haa]
              refine g_aload_n (q := 180) dX12_reckons_179 rfl rfl ?_
              refine g_getA (q := 183) (kI := 16) fX12_30 (by first | assumption | exact S.at _ rfl) dX12_reckons_180 rfl rfl (by first | assumption | exact L.at _ _ rfl | exact LK.at (by assumption) _ _ rfl | ((repeat first | rewrite [wr_na (by decide)] | rewrite [wr_nk (by decide)] | rewrite [wa_na (by decide)]); first | assumption | exact LK.at (by assumption) _ _ rfl) | exact rfl) ?_
              refine g_iload_n (q := 184) dX12_reckons_183 rfl rfl ?_
              refine g_iaload (q := 185) (by first | assumption | exact S.at _ rfl) (by omega) (by omega) (by omega) dX12_reckons_184 rfl ?_
              rw [hbb]
              refine g_callS (q := 188) lX12_237 mX12_between sX12_between rfl (tw_between d sh _ (by omega) q4 q3 (fun h => ⟨q2 (p4 h).2.1, q1 (p4 h).1⟩)) shLe.rf (rmOk.mk (by omega) (by first | exact shLe.rf | assumption)) (Nat.le_of_ble_eq_true rfl) dX12_reckons_185 rfl rfl (kI fun r_ c_ hp => ?_)
              obtain ⟨hr, hq⟩ := hp
              replace hr := hr.symm
              replace hq := hq.symm
              subst hr hq
              refine g_iastore (q := 189) (by first | assumption | exact S.at _ rfl) (by omega) (by omega) (by omega) dX12_reckons_188 rfl ?_
              exact nxt
            · exact absurd c_135 (by rw [hmt]; unfold w32; omega)
          · exact absurd c_91 (by rw [hmt]; unfold w32; omega)
  refine Mt.of rfl (Nat.le_of_ble_eq_true rfl) ?_
  show G _ 0 [some (.inr (.inr 92)), some (.inl law), some (.inl x), none, none, none] [] sh ct
  refine g_aload_n (q := 1) dX12_reckons_0 rfl rfl ?_
  refine g_getA (q := 4) (kI := 17) fX12_33 (by first | assumption | exact S.at _ rfl) dX12_reckons_1 rfl rfl (by first | assumption | exact L.at _ _ rfl | exact LK.at (by assumption) _ _ rfl | ((repeat first | rewrite [wr_na (by decide)] | rewrite [wr_nk (by decide)] | rewrite [wa_na (by decide)]); first | assumption | exact LK.at (by assumption) _ _ rfl) | exact rfl) ?_
  refine g_iconst (q := 5) dX12_reckons_4 rfl ?_
  refine g_iload_n (q := 6) dX12_reckons_5 rfl rfl ?_
  refine g_callS (q := 9) lX12_231 mX12_toneOf sX12_toneOf rfl (tw_toneOf d sh _ h0 (by omega)) shLe.rf (rmOk.mk (by omega) (by first | exact shLe.rf | assumption)) (Nat.le_of_ble_eq_true rfl) dX12_reckons_6 rfl rfl (kI fun r_ c_ hp => ?_)
  obtain ⟨hr, hq⟩ := hp
  replace hr := hr.symm
  replace hq := hq.symm
  subst hr hq
  refine g_iastore (q := 10) (by first | assumption | exact S.at _ rfl) (by omega) (by omega) (by omega) dX12_reckons_9 rfl ?_
  refine g_aload_n (q := 11) dX12_reckons_10 rfl rfl ?_
  refine g_getA (q := 14) (kI := 17) fX12_33 (by first | assumption | exact S.at _ rfl) dX12_reckons_11 rfl rfl (by first | assumption | exact L.at _ _ rfl | exact LK.at (by assumption) _ _ rfl | ((repeat first | rewrite [wr_na (by decide)] | rewrite [wr_nk (by decide)] | rewrite [wa_na (by decide)]); first | assumption | exact LK.at (by assumption) _ _ rfl) | exact rfl) ?_
  refine g_iconst (q := 15) dX12_reckons_14 rfl ?_
  refine g_iload_n (q := 16) dX12_reckons_15 rfl rfl ?_
  refine g_callS (q := 19) lX12_234 mX12_heatOf sX12_heatOf rfl (tw_heatOf d sh _ h0 (by omega)) shLe.rf (rmOk.mk (by omega) (by first | exact shLe.rf | assumption)) (Nat.le_of_ble_eq_true rfl) dX12_reckons_16 rfl rfl (kI fun r_ c_ hp => ?_)
  obtain ⟨hr, hq⟩ := hp
  replace hr := hr.symm
  replace hq := hq.symm
  subst hr hq
  have hx7 : (w32 x).tmod (w32 7) = x % 7 := by rw [w32_id (x := x) (by omega) (by omega), tm_pos h0]; rfl
  have fin : ∀ v : Int, v = (if x % 7 = 6 then 9 else x % 7) → G (mkK YX12_reckons (d + 1) sh sh Po) 43 [some (.inr (.inr 92)), some (.inl law), some (.inl x), none, none, none] [.inl v, .inl 2, .inr (.inr 98)] sh (wr (wr ct 98 0 (x / 70)) 98 1 (x / 7 % 10)) := by
    intro v hv
    refine g_iastore (q := 44) (by first | assumption | exact S.at _ rfl) (by omega) (by omega) (by omega) dX12_reckons_43 rfl ?_
    refine g_iconst (q := 45) dX12_reckons_44 rfl ?_
    refine s_istore_n_6_3 (q := 46) dX12_reckons_45 rfl rfl rfl ?_
    refine g_iconst (q := 47) dX12_reckons_46 rfl ?_
    refine s_istore_6_4 (q := 49) dX12_reckons_47 rfl rfl rfl ?_
    refine loop l 0 [] [] _ none rfl (by simp) m7 hT trivial trivial (by simp) (((eqBut.rf.wr (by decide)).wr (by decide)).wr (by decide)) ?_
    funext j
    subst hv
    unfold wdF wr
    grind
  refine g_iastore (q := 20) (by first | assumption | exact S.at _ rfl) (by omega) (by omega) (by omega) dX12_reckons_19 rfl ?_
  refine g_aload_n (q := 21) dX12_reckons_20 rfl rfl ?_
  refine g_getA (q := 24) (kI := 17) fX12_33 (by first | assumption | exact S.at _ rfl) dX12_reckons_21 rfl rfl (by first | assumption | exact L.at _ _ rfl | exact LK.at (by assumption) _ _ rfl | ((repeat first | rewrite [wr_na (by decide)] | rewrite [wr_nk (by decide)] | rewrite [wa_na (by decide)]); first | assumption | exact LK.at (by assumption) _ _ rfl) | exact rfl) ?_
  refine g_iconst (q := 25) dX12_reckons_24 rfl ?_
  refine g_iload_n (q := 26) dX12_reckons_25 rfl rfl ?_
  refine g_bipush (q := 28) dX12_reckons_26 (by decide +kernel) rfl ?_
  refine g_irem (q := 29) dX12_reckons_28 (by decide) rfl ?_
  rw [hx7]
  refine g_bipush (q := 31) dX12_reckons_29 (by decide +kernel) rfl ?_
  refine g_icmp_ne (q := 34) (tg := 39) dX12_reckons_31 (by decide) rfl (fun c_31 => ?_) (fun c_31 => ?_)
  · rw [show w32 6 = 6 from rfl, w32_id (by omega) (by omega)] at c_31
    refine g_iload_n (q := 40) dX12_reckons_39 rfl rfl ?_
    refine g_bipush (q := 42) dX12_reckons_40 (by decide +kernel) rfl ?_
    refine g_irem (q := 43) dX12_reckons_42 (by decide) rfl ?_
    rw [hx7]
    exact fin _ (by rw [if_neg c_31])
  · rw [show w32 6 = 6 from rfl, w32_id (by omega) (by omega)] at c_31
    refine g_bipush (q := 36) dX12_reckons_34 (by decide +kernel) rfl ?_
    refine g_goto (q := 43) dX12_reckons_36 (by decide) ?_
    exact fin _ (by rw [if_pos c_31])
theorem tw_wouldBy {x m s k : Int} (S : SH sh) (M : MD ct β mk st) (h0 : 0 ≤ x) (h1 : x < 700) (m0 : 0 ≤ m) (m1 : m < 10) (s0 : 0 ≤ s) (s1 : s < 10) (k0 : 0 ≤ k) (k1 : k < 10) : Mt YX12_wouldBy (d + 2) [.inr (.inr 92), .inl x, .inl m, .inl s, .inl k] sh sh ct (pI fun r c => r = b01 (β.W x m k s = true) ∧ eqBut [97, 98] ct c) := by
  have L := M.L
  obtain ⟨l, hl, hW⟩ := M.law0
  have hl0 := hl
  obtain ⟨m1', -⟩ := hl0
  rw [Int.zero_add, Int.add_zero] at m1'
  refine Mt.of rfl (Nat.le_of_ble_eq_true rfl) ?_
  show G _ 0 [some (.inr (.inr 92)), some (.inl x), some (.inl m), some (.inl s), some (.inl k)] [] sh ct
  refine g_aload_n (q := 1) dX12_wouldBy_0 rfl rfl ?_
  refine g_getA (q := 4) (kI := 1) fX12_13 (by first | assumption | exact S.at _ rfl) dX12_wouldBy_1 rfl rfl (by first | assumption | exact L.at _ _ rfl | exact LK.at (by assumption) _ _ rfl | ((repeat first | rewrite [wr_na (by decide)] | rewrite [wr_nk (by decide)] | rewrite [wa_na (by decide)]); first | assumption | exact LK.at (by assumption) _ _ rfl) | exact rfl) ?_
  refine g_bipush (q := 6) dX12_wouldBy_4 (by decide +kernel) rfl ?_
  refine g_iaload (q := 7) (by first | assumption | exact S.at _ rfl) (by omega) (by omega) (by omega) dX12_wouldBy_6 rfl ?_
  refine g_if_ne (q := 10) (tg := 12) dX12_wouldBy_7 (by decide) rfl (fun c_7 => ?_) (fun c_7 => ?_)
  · have hne : l ≠ [] := by
      rw [m1'] at c_7
      exact wbn.mp c_7
    refine g_aload_n (q := 13) dX12_wouldBy_12 rfl rfl ?_
    refine g_getA (q := 16) (kI := 17) fX12_33 (by first | assumption | exact S.at _ rfl) dX12_wouldBy_13 rfl rfl (by first | assumption | exact L.at _ _ rfl | exact LK.at (by assumption) _ _ rfl | ((repeat first | rewrite [wr_na (by decide)] | rewrite [wr_nk (by decide)] | rewrite [wa_na (by decide)]); first | assumption | exact LK.at (by assumption) _ _ rfl) | exact rfl) ?_
    refine g_iconst (q := 17) dX12_wouldBy_16 rfl ?_
    refine g_iload_n (q := 18) dX12_wouldBy_17 rfl rfl ?_
    refine g_iastore (q := 19) (by first | assumption | exact S.at _ rfl) (by omega) (by omega) (by omega) dX12_wouldBy_18 rfl ?_
    refine g_aload_n (q := 20) dX12_wouldBy_19 rfl rfl ?_
    refine g_getA (q := 23) (kI := 17) fX12_33 (by first | assumption | exact S.at _ rfl) dX12_wouldBy_20 rfl rfl (by first | assumption | exact L.at _ _ rfl | exact LK.at (by assumption) _ _ rfl | ((repeat first | rewrite [wr_na (by decide)] | rewrite [wr_nk (by decide)] | rewrite [wa_na (by decide)]); first | assumption | exact LK.at (by assumption) _ _ rfl) | exact rfl) ?_
    refine g_iconst (q := 24) dX12_wouldBy_23 rfl ?_
    refine g_iload (q := 26) dX12_wouldBy_24 rfl rfl ?_
    refine g_iastore (q := 27) (by first | assumption | exact S.at _ rfl) (by omega) (by omega) (by omega) dX12_wouldBy_26 rfl ?_
    refine g_aload_n (q := 28) dX12_wouldBy_27 rfl rfl ?_
    refine g_getA (q := 31) (kI := 17) fX12_33 (by first | assumption | exact S.at _ rfl) dX12_wouldBy_28 rfl rfl (by first | assumption | exact L.at _ _ rfl | exact LK.at (by assumption) _ _ rfl | ((repeat first | rewrite [wr_na (by decide)] | rewrite [wr_nk (by decide)] | rewrite [wa_na (by decide)]); first | assumption | exact LK.at (by assumption) _ _ rfl) | exact rfl) ?_
    refine g_iconst (q := 32) dX12_wouldBy_31 rfl ?_
    refine g_iload_n (q := 33) dX12_wouldBy_32 rfl rfl ?_
    refine g_iastore (q := 34) (by first | assumption | exact S.at _ rfl) (by omega) (by omega) (by omega) dX12_wouldBy_33 rfl ?_
    refine g_aload_n (q := 35) dX12_wouldBy_34 rfl rfl ?_
    refine g_iconst (q := 36) dX12_wouldBy_35 rfl ?_
    refine g_iload_n (q := 37) dX12_wouldBy_36 rfl rfl ?_
    generalize hc1 : wr _ 98 5 _ = c1
    have e1 : eqBut [97, 98] ct c1 := by rw [← hc1]; exact ((eqBut.rf.wr (by decide)).wr (by decide)).wr (by decide)
    refine g_callV (q := 40) lX12_241 mX12_reckons nX12_reckons rfl (tw_reckons d sh c1 (law := 0) (ask := askF x m k s) S (L.eb e1 rfl) (Or.inl rfl) (by rw [e1 93 (by decide)]; exact hl) hne h0 h1 ?_ ?_) (by first | assumption | exact S.at _ rfl) rfl rfl shLe.rf (rmOk.mk (by omega) (by first | exact shLe.rf | assumption)) (Nat.le_of_ble_eq_true rfl) dX12_wouldBy_37 rfl rfl (kI fun r c3 hp => ?_)
    · intro i i0 i1
      unfold askF
      (repeat' split) <;> omega
    · intro op hop o1 o2
      rw [← hc1]
      unfold wdF askF wr
      grind
    · obtain ⟨rfl, he⟩ := hp
      have hv : β.W x m k s = true ↔ semL (askF x m k s) l [] = [1] := by
        rw [hW]
        unfold wouldL
        simp [hne]
      refine g_iconst (q := 41) dX12_wouldBy_40 rfl ?_
      refine g_icmp_ne (q := 44) (tg := 48) dX12_wouldBy_41 (by decide) rfl (fun c_41 => ?_) (fun c_41 => ?_)
      · refine g_iconst (q := 49) dX12_wouldBy_48 rfl ?_
        refine g_zreturn dX12_wouldBy_49 rfl (by decide +kernel) ?_
        refine ⟨_, rfl, ?_, e1.tr he⟩; have hq := b01_in (semL (askF x m k s) l [] = [1]); first | (apply b01_t; rw [hv]; apply Decidable.byContradiction; intro hz; rw [← b01_f hz] at c_41; exact absurd c_41 (by decide)) | (apply b01_f; rw [hv]; intro hz; rw [← b01_t hz] at c_41; exact c_41 rfl)
      · refine g_iconst (q := 45) dX12_wouldBy_44 rfl ?_
        refine g_goto (q := 49) dX12_wouldBy_45 (by decide) ?_
        refine g_zreturn dX12_wouldBy_49 rfl (by decide +kernel) ?_
        refine ⟨_, rfl, ?_, e1.tr he⟩; have hq := b01_in (semL (askF x m k s) l [] = [1]); first | (apply b01_t; rw [hv]; apply Decidable.byContradiction; intro hz; rw [← b01_f hz] at c_41; exact absurd c_41 (by decide)) | (apply b01_f; rw [hv]; intro hz; rw [← b01_t hz] at c_41; exact c_41 rfl)
  · have hn : l = [] := by
      rw [m1'] at c_7
      exact Decidable.not_not.mp (wb0.mp c_7)
    refine g_iconst (q := 11) dX12_wouldBy_10 rfl ?_
    refine g_zreturn dX12_wouldBy_11 rfl (by decide +kernel) ?_
    refine ⟨_, rfl, ?_, eqBut.rf⟩
    apply b01_t
    rw [hW, hn]
    rfl
theorem tw_wouldSay {x m s : Int} (S : SH sh) (M : MD ct β mk st) (h0 : 0 ≤ x) (h1 : x < 700) (m0 : 0 ≤ m) (m1 : m < 6) (s0 : 0 ≤ s) (s1 : s < 10) : Mt YX12_wouldSay (d + 3) [.inr (.inr 92), .inl x, .inl m, .inl s] sh sh ct (pI fun r c => r = b01 (β.W x m (mk m) s = true) ∧ eqBut [97, 98] ct c) := by
  have L := M.L
  have hk := M.mark m0 m1
  refine Mt.of rfl (Nat.le_of_ble_eq_true rfl) ?_
  show G _ 0 [some (.inr (.inr 92)), some (.inl x), some (.inl m), some (.inl s)] [] sh ct
  refine g_aload_n (q := 1) dX12_wouldSay_0 rfl rfl ?_
  refine g_iload_n (q := 2) dX12_wouldSay_1 rfl rfl ?_
  refine g_iload_n (q := 3) dX12_wouldSay_2 rfl rfl ?_
  refine g_iload_n (q := 4) dX12_wouldSay_3 rfl rfl ?_
  refine g_aload_n (q := 5) dX12_wouldSay_4 rfl rfl ?_
  refine g_getA (q := 8) (kI := 1) fX12_13 (by first | assumption | exact S.at _ rfl) dX12_wouldSay_5 rfl rfl (by first | assumption | exact L.at _ _ rfl | exact LK.at (by assumption) _ _ rfl | ((repeat first | rewrite [wr_na (by decide)] | rewrite [wr_nk (by decide)] | rewrite [wa_na (by decide)]); first | assumption | exact LK.at (by assumption) _ _ rfl) | exact rfl) ?_
  refine g_bipush (q := 10) dX12_wouldSay_8 (by decide +kernel) rfl ?_
  refine g_iload_n (q := 11) dX12_wouldSay_10 rfl rfl ?_
  refine g_iadd (q := 12) dX12_wouldSay_11 rfl ?_
  refine g_iaload (q := 13) (by first | assumption | exact S.at _ rfl) (by omega) (by omega) (by omega) dX12_wouldSay_12 rfl ?_
  rw [hk.1]
  refine g_callV (q := 16) lX12_244 mX12_wouldBy nX12_wouldBy rfl (tw_wouldBy d sh _ S M h0 h1 m0 (by omega) s0 s1 (by omega) (by omega)) (by first | assumption | exact S.at _ rfl) rfl rfl shLe.rf (rmOk.mk (by omega) (by first | exact shLe.rf | assumption)) (Nat.le_of_ble_eq_true rfl) dX12_wouldSay_13 rfl rfl (kI fun r_13 s_13 hp => ?_)
  obtain ⟨rfl, hp2⟩ := hp
  refine g_zreturn dX12_wouldSay_16 rfl (nar01 (b01_in _)) ?_
  exact ⟨_, rfl, rfl, hp2⟩
theorem tw_isClosed {x : Int} (S : SH sh) (M : MD ct β mk st) (h0 : 0 ≤ x) (h1 : x < 700) : Mt YX12_isClosed (d + 2) [.inr (.inr 92), .inl x] sh sh ct (pI fun r c => r = b01 (β.cl x = true) ∧ eqBut [97, 98] ct c) := by
  have L := M.L
  obtain ⟨l, hl, hna, hC⟩ := M.law1
  have hl0 := hl
  obtain ⟨m1', -⟩ := hl0
  rw [Int.zero_add, show (6 : Int) + 1 = 7 from rfl] at m1'
  refine Mt.of rfl (Nat.le_of_ble_eq_true rfl) ?_
  show G _ 0 [some (.inr (.inr 92)), some (.inl x)] [] sh ct
  refine g_aload_n (q := 1) dX12_isClosed_0 rfl rfl ?_
  refine g_getA (q := 4) (kI := 1) fX12_13 (by first | assumption | exact S.at _ rfl) dX12_isClosed_1 rfl rfl (by first | assumption | exact L.at _ _ rfl | exact LK.at (by assumption) _ _ rfl | ((repeat first | rewrite [wr_na (by decide)] | rewrite [wr_nk (by decide)] | rewrite [wa_na (by decide)]); first | assumption | exact LK.at (by assumption) _ _ rfl) | exact rfl) ?_
  refine g_bipush (q := 6) dX12_isClosed_4 (by decide +kernel) rfl ?_
  refine g_iaload (q := 7) (by first | assumption | exact S.at _ rfl) (by omega) (by omega) (by omega) dX12_isClosed_6 rfl ?_
  refine g_if_ne (q := 10) (tg := 25) dX12_isClosed_7 (by decide) rfl (fun c_7 => ?_) (fun c_7 => ?_)
  · have hne : l ≠ [] := by
      rw [m1'] at c_7
      exact wbn.mp c_7
    refine g_aload_n (q := 26) dX12_isClosed_25 rfl rfl ?_
    refine g_iconst (q := 27) dX12_isClosed_26 rfl ?_
    refine g_iload_n (q := 28) dX12_isClosed_27 rfl rfl ?_
    refine g_callV (q := 31) lX12_241 mX12_reckons nX12_reckons rfl (tw_reckons d sh ct (law := 1) (ask := askF x 0 0 0) S L (Or.inr rfl) hl hne h0 h1 ?_ ?_) (by first | assumption | exact S.at _ rfl) rfl rfl shLe.rf (rmOk.mk (by omega) (by first | exact shLe.rf | assumption)) (Nat.le_of_ble_eq_true rfl) dX12_isClosed_28 rfl rfl (kI fun r c3 hp => ?_)
    · intro i i0 i1
      unfold askF
      (repeat' split) <;> omega
    · intro op hop o1 o2
      have := hna op hop
      unfold wdF askF
      grind
    · obtain ⟨rfl, he⟩ := hp
      have hv : β.cl x = true ↔ semL (askF x 0 0 0) l [] = [1] := by
        rw [hC]
        unfold closesL
        simp [hne]
      refine g_iconst (q := 32) dX12_isClosed_31 rfl ?_
      refine g_icmp_ne (q := 35) (tg := 39) dX12_isClosed_32 (by decide) rfl (fun c_32 => ?_) (fun c_32 => ?_)
      · refine g_iconst (q := 40) dX12_isClosed_39 rfl ?_
        refine g_zreturn dX12_isClosed_40 rfl (by decide +kernel) ?_
        refine ⟨_, rfl, ?_, he⟩; have hq := b01_in (semL (askF x 0 0 0) l [] = [1]); first | (apply b01_t; rw [hv]; apply Decidable.byContradiction; intro hz; rw [← b01_f hz] at c_32; exact absurd c_32 (by decide)) | (apply b01_f; rw [hv]; intro hz; rw [← b01_t hz] at c_32; exact c_32 rfl)
      · refine g_iconst (q := 36) dX12_isClosed_35 rfl ?_
        refine g_goto (q := 40) dX12_isClosed_36 (by decide) ?_
        refine g_zreturn dX12_isClosed_40 rfl (by decide +kernel) ?_
        refine ⟨_, rfl, ?_, he⟩; have hq := b01_in (semL (askF x 0 0 0) l [] = [1]); first | (apply b01_t; rw [hv]; apply Decidable.byContradiction; intro hz; rw [← b01_f hz] at c_32; exact absurd c_32 (by decide)) | (apply b01_f; rw [hv]; intro hz; rw [← b01_t hz] at c_32; exact c_32 rfl)
  · have hn : l = [] := by
      rw [m1'] at c_7
      exact Decidable.not_not.mp (wb0.mp c_7)
    have hv : β.cl x = true ↔ x / 7 % 10 = 0 := by
      rw [hC, hn]
      unfold closesL
      simp
    refine g_iload_n (q := 11) dX12_isClosed_10 rfl rfl ?_
    refine g_callS (q := 14) lX12_234 mX12_heatOf sX12_heatOf rfl (tw_heatOf d sh _ h0 (by omega)) shLe.rf (rmOk.mk (by omega) (by first | exact shLe.rf | assumption)) (Nat.le_of_ble_eq_true rfl) dX12_isClosed_11 rfl rfl (kI fun r_11 s_11 hp => ?_)
    obtain ⟨hr, hq⟩ := hp
    replace hr := hr.symm
    replace hq := hq.symm
    subst hr hq
    refine g_if_ne (q := 17) (tg := 21) dX12_isClosed_14 (by decide) rfl (fun c_14 => ?_) (fun c_14 => ?_)
    · refine g_iconst (q := 22) dX12_isClosed_21 rfl ?_
      refine g_goto (q := 40) dX12_isClosed_22 (by decide) ?_
      refine g_zreturn dX12_isClosed_40 rfl (by decide +kernel) ?_
      refine ⟨_, rfl, ?_, eqBut.rf⟩; first | (apply b01_t; rw [hv]; unfold w32 at c_14; omega) | (apply b01_f; rw [hv]; unfold w32 at c_14; omega)
    · refine g_iconst (q := 18) dX12_isClosed_17 rfl ?_
      refine g_goto (q := 40) dX12_isClosed_18 (by decide) ?_
      refine g_zreturn dX12_isClosed_40 rfl (by decide +kernel) ?_
      refine ⟨_, rfl, ?_, eqBut.rf⟩; first | (apply b01_t; rw [hv]; unfold w32 at c_14; omega) | (apply b01_f; rw [hv]; unfold w32 at c_14; omega)
end
