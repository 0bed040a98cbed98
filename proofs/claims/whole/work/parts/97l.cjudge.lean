/-! MinuteBook: judge, perform, monday -/
theorem dX11_judge_0 : decode cX11_judge 0 = .ok (.iload_n 1, 1) := by decide +kernel
theorem dX11_judge_1 : decode cX11_judge 1 = .ok (.invokestatic 214, 3) := by decide +kernel
theorem dX11_judge_4 : decode cX11_judge 4 = .ok (.ifCond .eq 12, 3) := by decide +kernel
theorem dX11_judge_7 : decode cX11_judge 7 = .ok (.iload_n 2, 1) := by decide +kernel
theorem dX11_judge_8 : decode cX11_judge 8 = .ok (.ifCond .lt 8, 3) := by decide +kernel
theorem dX11_judge_11 : decode cX11_judge 11 = .ok (.iload_n 2, 1) := by decide +kernel
theorem dX11_judge_12 : decode cX11_judge 12 = .ok (.iconst 3, 1) := by decide +kernel
theorem dX11_judge_13 : decode cX11_judge 13 = .ok (.if_icmp .le 6, 3) := by decide +kernel
theorem dX11_judge_16 : decode cX11_judge 16 = .ok (.bipush (-2), 2) := by decide +kernel
theorem dX11_judge_18 : decode cX11_judge 18 = .ok (.ireturn, 1) := by decide +kernel
theorem dX11_judge_19 : decode cX11_judge 19 = .ok (.aload_n 0, 1) := by decide +kernel
theorem dX11_judge_20 : decode cX11_judge 20 = .ok (.getfield 46, 3) := by decide +kernel
theorem dX11_judge_23 : decode cX11_judge 23 = .ok (.iload_n 1, 1) := by decide +kernel
theorem dX11_judge_24 : decode cX11_judge 24 = .ok (.aaload, 1) := by decide +kernel
theorem dX11_judge_25 : decode cX11_judge 25 = .ok (.astore_n 3, 1) := by decide +kernel
theorem dX11_judge_26 : decode cX11_judge 26 = .ok (.aload_n 3, 1) := by decide +kernel
theorem dX11_judge_27 : decode cX11_judge 27 = .ok (.invokevirtual 217, 3) := by decide +kernel
theorem dX11_judge_30 : decode cX11_judge 30 = .ok (.ifCond .eq 6, 3) := by decide +kernel
theorem dX11_judge_33 : decode cX11_judge 33 = .ok (.bipush (-6), 2) := by decide +kernel
theorem dX11_judge_35 : decode cX11_judge 35 = .ok (.ireturn, 1) := by decide +kernel
theorem dX11_judge_36 : decode cX11_judge 36 = .ok (.aload_n 0, 1) := by decide +kernel
theorem dX11_judge_37 : decode cX11_judge 37 = .ok (.getfield 34, 3) := by decide +kernel
theorem dX11_judge_40 : decode cX11_judge 40 = .ok (.aload_n 0, 1) := by decide +kernel
theorem dX11_judge_41 : decode cX11_judge 41 = .ok (.getfield 30, 3) := by decide +kernel
theorem dX11_judge_44 : decode cX11_judge 44 = .ok (.invokevirtual 184, 3) := by decide +kernel
theorem dX11_judge_47 : decode cX11_judge 47 = .ok (.aload_n 0, 1) := by decide +kernel
theorem dX11_judge_48 : decode cX11_judge 48 = .ok (.aload_n 0, 1) := by decide +kernel
theorem dX11_judge_49 : decode cX11_judge 49 = .ok (.getfield 34, 3) := by decide +kernel
theorem dX11_judge_52 : decode cX11_judge 52 = .ok (.aload_n 3, 1) := by decide +kernel
theorem dX11_judge_53 : decode cX11_judge 53 = .ok (.invokevirtual 221, 3) := by decide +kernel
theorem dX11_judge_56 : decode cX11_judge 56 = .ok (.istore 4, 2) := by decide +kernel
theorem dX11_judge_58 : decode cX11_judge 58 = .ok (.iload_n 2, 1) := by decide +kernel
theorem dX11_judge_59 : decode cX11_judge 59 = .ok (.tableswitch 80 0 2 #[25, 41, 69], 25) := by decide +kernel
theorem dX11_judge_84 : decode cX11_judge 84 = .ok (.iload 4, 2) := by decide +kernel
theorem dX11_judge_86 : decode cX11_judge 86 = .ok (.aload_n 3, 1) := by decide +kernel
theorem dX11_judge_87 : decode cX11_judge 87 = .ok (.getfield 225, 3) := by decide +kernel
theorem dX11_judge_90 : decode cX11_judge 90 = .ok (.if_icmp .ge 8, 3) := by decide +kernel
theorem dX11_judge_93 : decode cX11_judge 93 = .ok (.iload 4, 2) := by decide +kernel
theorem dX11_judge_95 : decode cX11_judge 95 = .ok (.goto 4, 3) := by decide +kernel
theorem dX11_judge_98 : decode cX11_judge 98 = .ok (.iconst (-1), 1) := by decide +kernel
theorem dX11_judge_99 : decode cX11_judge 99 = .ok (.ireturn, 1) := by decide +kernel
theorem dX11_judge_100 : decode cX11_judge 100 = .ok (.iload 4, 2) := by decide +kernel
theorem dX11_judge_102 : decode cX11_judge 102 = .ok (.aload_n 3, 1) := by decide +kernel
theorem dX11_judge_103 : decode cX11_judge 103 = .ok (.getfield 225, 3) := by decide +kernel
theorem dX11_judge_106 : decode cX11_judge 106 = .ok (.if_icmp .ge 20, 3) := by decide +kernel
theorem dX11_judge_109 : decode cX11_judge 109 = .ok (.aload_n 0, 1) := by decide +kernel
theorem dX11_judge_110 : decode cX11_judge 110 = .ok (.aload_n 0, 1) := by decide +kernel
theorem dX11_judge_111 : decode cX11_judge 111 = .ok (.getfield 34, 3) := by decide +kernel
theorem dX11_judge_114 : decode cX11_judge 114 = .ok (.aload_n 3, 1) := by decide +kernel
theorem dX11_judge_115 : decode cX11_judge 115 = .ok (.iload 4, 2) := by decide +kernel
theorem dX11_judge_117 : decode cX11_judge 117 = .ok (.invokevirtual 226, 3) := by decide +kernel
theorem dX11_judge_120 : decode cX11_judge 120 = .ok (.invokevirtual 229, 3) := by decide +kernel
theorem dX11_judge_123 : decode cX11_judge 123 = .ok (.goto 4, 3) := by decide +kernel
theorem dX11_judge_126 : decode cX11_judge 126 = .ok (.iconst 0, 1) := by decide +kernel
theorem dX11_judge_127 : decode cX11_judge 127 = .ok (.ireturn, 1) := by decide +kernel
theorem dX11_judge_128 : decode cX11_judge 128 = .ok (.aload_n 0, 1) := by decide +kernel
theorem dX11_judge_129 : decode cX11_judge 129 = .ok (.getfield 34, 3) := by decide +kernel
theorem dX11_judge_132 : decode cX11_judge 132 = .ok (.getfield 151, 3) := by decide +kernel
theorem dX11_judge_135 : decode cX11_judge 135 = .ok (.invokestatic 195, 3) := by decide +kernel
theorem dX11_judge_138 : decode cX11_judge 138 = .ok (.ireturn, 1) := by decide +kernel
theorem dX11_judge_139 : decode cX11_judge 139 = .ok (.aload_n 0, 1) := by decide +kernel
theorem dX11_judge_140 : decode cX11_judge 140 = .ok (.getfield 79, 3) := by decide +kernel
theorem dX11_judge_143 : decode cX11_judge 143 = .ok (.aload_n 0, 1) := by decide +kernel
theorem dX11_judge_144 : decode cX11_judge 144 = .ok (.getfield 34, 3) := by decide +kernel
theorem dX11_judge_147 : decode cX11_judge 147 = .ok (.getfield 151, 3) := by decide +kernel
theorem dX11_judge_150 : decode cX11_judge 150 = .ok (.invokevirtual 176, 3) := by decide +kernel
theorem dX11_judge_153 : decode cX11_judge 153 = .ok (.ifCond .eq 7, 3) := by decide +kernel
theorem dX11_judge_156 : decode cX11_judge 156 = .ok (.iconst 1, 1) := by decide +kernel
theorem dX11_judge_157 : decode cX11_judge 157 = .ok (.goto 4, 3) := by decide +kernel
theorem dX11_judge_160 : decode cX11_judge 160 = .ok (.iconst 0, 1) := by decide +kernel
theorem dX11_judge_161 : decode cX11_judge 161 = .ok (.ireturn, 1) := by decide +kernel
theorem dX11_perform_0 : decode cX11_perform 0 = .ok (.aload_n 0, 1) := by decide +kernel
theorem dX11_perform_1 : decode cX11_perform 1 = .ok (.iload_n 1, 1) := by decide +kernel
theorem dX11_perform_2 : decode cX11_perform 2 = .ok (.invokevirtual 233, 3) := by decide +kernel
theorem dX11_perform_5 : decode cX11_perform 5 = .ok (.istore_n 2, 1) := by decide +kernel
theorem dX11_perform_6 : decode cX11_perform 6 = .ok (.iload_n 2, 1) := by decide +kernel
theorem dX11_perform_7 : decode cX11_perform 7 = .ok (.ifCond .eq 5, 3) := by decide +kernel
theorem dX11_perform_10 : decode cX11_perform 10 = .ok (.iload_n 2, 1) := by decide +kernel
theorem dX11_perform_11 : decode cX11_perform 11 = .ok (.ireturn, 1) := by decide +kernel
theorem dX11_perform_12 : decode cX11_perform 12 = .ok (.aload_n 0, 1) := by decide +kernel
theorem dX11_perform_13 : decode cX11_perform 13 = .ok (.getfield 34, 3) := by decide +kernel
theorem dX11_perform_16 : decode cX11_perform 16 = .ok (.aload_n 0, 1) := by decide +kernel
theorem dX11_perform_17 : decode cX11_perform 17 = .ok (.getfield 30, 3) := by decide +kernel
theorem dX11_perform_20 : decode cX11_perform 20 = .ok (.invokevirtual 184, 3) := by decide +kernel
theorem dX11_perform_23 : decode cX11_perform 23 = .ok (.aload_n 0, 1) := by decide +kernel
theorem dX11_perform_24 : decode cX11_perform 24 = .ok (.aload_n 0, 1) := by decide +kernel
theorem dX11_perform_25 : decode cX11_perform 25 = .ok (.getfield 30, 3) := by decide +kernel
theorem dX11_perform_28 : decode cX11_perform 28 = .ok (.aload_n 0, 1) := by decide +kernel
theorem dX11_perform_29 : decode cX11_perform 29 = .ok (.getfield 46, 3) := by decide +kernel
theorem dX11_perform_32 : decode cX11_perform 32 = .ok (.iload_n 1, 1) := by decide +kernel
theorem dX11_perform_33 : decode cX11_perform 33 = .ok (.aaload, 1) := by decide +kernel
theorem dX11_perform_34 : decode cX11_perform 34 = .ok (.invokevirtual 221, 3) := by decide +kernel
theorem dX11_perform_37 : decode cX11_perform 37 = .ok (.istore_n 3, 1) := by decide +kernel
theorem dX11_perform_38 : decode cX11_perform 38 = .ok (.iload_n 3, 1) := by decide +kernel
theorem dX11_perform_39 : decode cX11_perform 39 = .ok (.ifCond .le 14, 3) := by decide +kernel
theorem dX11_perform_42 : decode cX11_perform 42 = .ok (.aload_n 0, 1) := by decide +kernel
theorem dX11_perform_43 : decode cX11_perform 43 = .ok (.getfield 40, 3) := by decide +kernel
theorem dX11_perform_46 : decode cX11_perform 46 = .ok (.aload_n 0, 1) := by decide +kernel
theorem dX11_perform_47 : decode cX11_perform 47 = .ok (.getfield 34, 3) := by decide +kernel
theorem dX11_perform_50 : decode cX11_perform 50 = .ok (.invokevirtual 192, 3) := by decide +kernel
theorem dX11_perform_53 : decode cX11_perform 53 = .ok (.iload_n 3, 1) := by decide +kernel
theorem dX11_perform_54 : decode cX11_perform 54 = .ok (.ireturn, 1) := by decide +kernel
theorem dX11_monday_0 : decode cX11_monday 0 = .ok (.iload_n 2, 1) := by decide +kernel
theorem dX11_monday_1 : decode cX11_monday 1 = .ok (.iconst 1, 1) := by decide +kernel
theorem dX11_monday_2 : decode cX11_monday 2 = .ok (.if_icmp .lt 9, 3) := by decide +kernel
theorem dX11_monday_5 : decode cX11_monday 5 = .ok (.iload_n 2, 1) := by decide +kernel
theorem dX11_monday_6 : decode cX11_monday 6 = .ok (.bipush 40, 2) := by decide +kernel
theorem dX11_monday_8 : decode cX11_monday 8 = .ok (.if_icmp .le 6, 3) := by decide +kernel
theorem dX11_monday_11 : decode cX11_monday 11 = .ok (.bipush (-3), 2) := by decide +kernel
theorem dX11_monday_13 : decode cX11_monday 13 = .ok (.ireturn, 1) := by decide +kernel
theorem dX11_monday_14 : decode cX11_monday 14 = .ok (.aload_n 0, 1) := by decide +kernel
theorem dX11_monday_15 : decode cX11_monday 15 = .ok (.getfield 34, 3) := by decide +kernel
theorem dX11_monday_18 : decode cX11_monday 18 = .ok (.aload_n 0, 1) := by decide +kernel
theorem dX11_monday_19 : decode cX11_monday 19 = .ok (.getfield 30, 3) := by decide +kernel
theorem dX11_monday_22 : decode cX11_monday 22 = .ok (.invokevirtual 184, 3) := by decide +kernel
theorem dX11_monday_25 : decode cX11_monday 25 = .ok (.iconst 0, 1) := by decide +kernel
theorem dX11_monday_26 : decode cX11_monday 26 = .ok (.istore_n 3, 1) := by decide +kernel
theorem dX11_monday_27 : decode cX11_monday 27 = .ok (.iload_n 1, 1) := by decide +kernel
theorem dX11_monday_28 : decode cX11_monday 28 = .ok (.istore 4, 2) := by decide +kernel
theorem dX11_monday_30 : decode cX11_monday 30 = .ok (.iconst 0, 1) := by decide +kernel
theorem dX11_monday_31 : decode cX11_monday 31 = .ok (.istore 5, 2) := by decide +kernel
theorem dX11_monday_33 : decode cX11_monday 33 = .ok (.iload 5, 2) := by decide +kernel
theorem dX11_monday_35 : decode cX11_monday 35 = .ok (.iload_n 2, 1) := by decide +kernel
theorem dX11_monday_36 : decode cX11_monday 36 = .ok (.if_icmp .ge 119, 3) := by decide +kernel
theorem dX11_monday_39 : decode cX11_monday 39 = .ok (.iload 4, 2) := by decide +kernel
theorem dX11_monday_41 : decode cX11_monday 41 = .ok (.invokestatic 236, 3) := by decide +kernel
theorem dX11_monday_44 : decode cX11_monday 44 = .ok (.istore 4, 2) := by decide +kernel
theorem dX11_monday_46 : decode cX11_monday 46 = .ok (.iload 4, 2) := by decide +kernel
theorem dX11_monday_48 : decode cX11_monday 48 = .ok (.bipush 16, 2) := by decide +kernel
theorem dX11_monday_50 : decode cX11_monday 50 = .ok (.iushr, 1) := by decide +kernel
theorem dX11_monday_51 : decode cX11_monday 51 = .ok (.bipush 6, 2) := by decide +kernel
theorem dX11_monday_53 : decode cX11_monday 53 = .ok (.irem, 1) := by decide +kernel
theorem dX11_monday_54 : decode cX11_monday 54 = .ok (.istore 6, 2) := by decide +kernel
theorem dX11_monday_56 : decode cX11_monday 56 = .ok (.iconst (-1), 1) := by decide +kernel
theorem dX11_monday_57 : decode cX11_monday 57 = .ok (.istore 7, 2) := by decide +kernel
theorem dX11_monday_59 : decode cX11_monday 59 = .ok (.iload 6, 2) := by decide +kernel
theorem dX11_monday_61 : decode cX11_monday 61 = .ok (.iconst 5, 1) := by decide +kernel
theorem dX11_monday_62 : decode cX11_monday 62 = .ok (.if_icmp .ge 70, 3) := by decide +kernel
theorem dX11_monday_65 : decode cX11_monday 65 = .ok (.iload 4, 2) := by decide +kernel
theorem dX11_monday_67 : decode cX11_monday 67 = .ok (.invokestatic 236, 3) := by decide +kernel
theorem dX11_monday_70 : decode cX11_monday 70 = .ok (.istore 4, 2) := by decide +kernel
theorem dX11_monday_72 : decode cX11_monday 72 = .ok (.iload 4, 2) := by decide +kernel
theorem dX11_monday_74 : decode cX11_monday 74 = .ok (.bipush 16, 2) := by decide +kernel
theorem dX11_monday_76 : decode cX11_monday 76 = .ok (.iushr, 1) := by decide +kernel
theorem dX11_monday_77 : decode cX11_monday 77 = .ok (.bipush 6, 2) := by decide +kernel
theorem dX11_monday_79 : decode cX11_monday 79 = .ok (.irem, 1) := by decide +kernel
theorem dX11_monday_80 : decode cX11_monday 80 = .ok (.istore 8, 2) := by decide +kernel
theorem dX11_monday_82 : decode cX11_monday 82 = .ok (.iload 4, 2) := by decide +kernel
theorem dX11_monday_84 : decode cX11_monday 84 = .ok (.invokestatic 236, 3) := by decide +kernel
theorem dX11_monday_87 : decode cX11_monday 87 = .ok (.istore 4, 2) := by decide +kernel
theorem dX11_monday_89 : decode cX11_monday 89 = .ok (.iload 4, 2) := by decide +kernel
theorem dX11_monday_91 : decode cX11_monday 91 = .ok (.bipush 16, 2) := by decide +kernel
theorem dX11_monday_93 : decode cX11_monday 93 = .ok (.iushr, 1) := by decide +kernel
theorem dX11_monday_94 : decode cX11_monday 94 = .ok (.istore 9, 2) := by decide +kernel
theorem dX11_monday_96 : decode cX11_monday 96 = .ok (.iload 6, 2) := by decide +kernel
theorem dX11_monday_98 : decode cX11_monday 98 = .ok (.iconst 4, 1) := by decide +kernel
theorem dX11_monday_99 : decode cX11_monday 99 = .ok (.if_icmp .ge 17, 3) := by decide +kernel
theorem dX11_monday_102 : decode cX11_monday 102 = .ok (.bipush 10, 2) := by decide +kernel
theorem dX11_monday_104 : decode cX11_monday 104 = .ok (.iload 8, 2) := by decide +kernel
theorem dX11_monday_106 : decode cX11_monday 106 = .ok (.imul, 1) := by decide +kernel
theorem dX11_monday_107 : decode cX11_monday 107 = .ok (.iload 9, 2) := by decide +kernel
theorem dX11_monday_109 : decode cX11_monday 109 = .ok (.bipush 8, 2) := by decide +kernel
theorem dX11_monday_111 : decode cX11_monday 111 = .ok (.irem, 1) := by decide +kernel
theorem dX11_monday_112 : decode cX11_monday 112 = .ok (.iadd, 1) := by decide +kernel
theorem dX11_monday_113 : decode cX11_monday 113 = .ok (.goto 17, 3) := by decide +kernel
theorem dX11_monday_116 : decode cX11_monday 116 = .ok (.bipush 100, 2) := by decide +kernel
theorem dX11_monday_118 : decode cX11_monday 118 = .ok (.bipush 10, 2) := by decide +kernel
theorem dX11_monday_120 : decode cX11_monday 120 = .ok (.iload 8, 2) := by decide +kernel
theorem dX11_monday_122 : decode cX11_monday 122 = .ok (.imul, 1) := by decide +kernel
theorem dX11_monday_123 : decode cX11_monday 123 = .ok (.iadd, 1) := by decide +kernel
theorem dX11_monday_124 : decode cX11_monday 124 = .ok (.iload 9, 2) := by decide +kernel
theorem dX11_monday_126 : decode cX11_monday 126 = .ok (.bipush 10, 2) := by decide +kernel
theorem dX11_monday_128 : decode cX11_monday 128 = .ok (.irem, 1) := by decide +kernel
theorem dX11_monday_129 : decode cX11_monday 129 = .ok (.iadd, 1) := by decide +kernel
theorem dX11_monday_130 : decode cX11_monday 130 = .ok (.istore 7, 2) := by decide +kernel
theorem dX11_monday_132 : decode cX11_monday 132 = .ok (.aload_n 0, 1) := by decide +kernel
theorem dX11_monday_133 : decode cX11_monday 133 = .ok (.aload_n 0, 1) := by decide +kernel
theorem dX11_monday_134 : decode cX11_monday 134 = .ok (.getfield 30, 3) := by decide +kernel
theorem dX11_monday_137 : decode cX11_monday 137 = .ok (.iload 7, 2) := by decide +kernel
theorem dX11_monday_139 : decode cX11_monday 139 = .ok (.i2l, 1) := by decide +kernel
theorem dX11_monday_140 : decode cX11_monday 140 = .ok (.invokevirtual 229, 3) := by decide +kernel
theorem dX11_monday_143 : decode cX11_monday 143 = .ok (.ifCond .ne 6, 3) := by decide +kernel
theorem dX11_monday_146 : decode cX11_monday 146 = .ok (.iinc 3 1, 3) := by decide +kernel
theorem dX11_monday_149 : decode cX11_monday 149 = .ok (.iinc 5 1, 3) := by decide +kernel
theorem dX11_monday_152 : decode cX11_monday 152 = .ok (.goto (-119), 3) := by decide +kernel
theorem dX11_monday_155 : decode cX11_monday 155 = .ok (.iload_n 3, 1) := by decide +kernel
theorem dX11_monday_156 : decode cX11_monday 156 = .ok (.ifCond .le 14, 3) := by decide +kernel
theorem dX11_monday_159 : decode cX11_monday 159 = .ok (.aload_n 0, 1) := by decide +kernel
theorem dX11_monday_160 : decode cX11_monday 160 = .ok (.getfield 40, 3) := by decide +kernel
theorem dX11_monday_163 : decode cX11_monday 163 = .ok (.aload_n 0, 1) := by decide +kernel
theorem dX11_monday_164 : decode cX11_monday 164 = .ok (.getfield 34, 3) := by decide +kernel
theorem dX11_monday_167 : decode cX11_monday 167 = .ok (.invokevirtual 192, 3) := by decide +kernel
theorem dX11_monday_170 : decode cX11_monday 170 = .ok (.iload_n 3, 1) := by decide +kernel
theorem dX11_monday_171 : decode cX11_monday 171 = .ok (.ireturn, 1) := by decide +kernel
theorem dRun_why {β : Bk} {tl : Int → Int} {n : Nat} : ∀ (r : Nat) (s : Sit), r ≤ n → (dRun β tl n r s).1 < n → (dRun β tl n r s).2.2 = whyV β (dRun β tl n r s).2.1 (tl (dRun β tl n r s).1)
  | 0, s, _, h => by
    have : ((n : Nat) : Int) < n := h
    omega
  | r + 1, s, hr, h => by
    unfold dRun at h ⊢
    split
    · rename_i hw
      rw [if_pos hw] at h
      exact dRun_why r _ (by omega) h
    · rfl
theorem dRun_none {β : Bk} {tl : Int → Int} {n : Nat} (s : Sit) (h0 : (dRun β tl n n s).1 = 0) : (dRun β tl n n s).2.1 = s := by
  match n, h0 with
  | 0, _ => rfl
  | N + 1, hr0 =>
    unfold dRun at hr0 ⊢
    split
    · rename_i hw
      rw [if_pos hw] at hr0
      exfalso
      have h1 : ∀ (r : Nat) (u : Sit), r ≤ N → ((N + 1 - r : Nat) : Int) ≤ (dRun β tl (N + 1) r u).1 := by
        intro r
        induction r with
        | zero =>
          intro u _
          show ((N + 1 - 0 : Nat) : Int) ≤ ((N + 1 : Nat) : Int)
          omega
        | succ r ih =>
          intro u hr
          unfold dRun
          split
          · have := ih (doV β u (tl ((N + 1 - (r + 1) : Nat) : Int))) (by omega)
            omega
          · exact Int.le_refl _
      have := h1 N (doV β s (tl ((N + 1 - (N + 1) : Nat) : Int))) (Nat.le_refl _)
      omega
    · rfl
section
variable (d : Nat) (sh : mbSh) (ct : mbCt) {b : Int} {β : Bk} {s z : Sit} {q : Int} {N : Nat} {V n : Int} {pl : Int → Sit} {sz bt : Int → Int} {vl : Int → Int → Int}
theorem TC.cg {c : mbCt} (T : TC ct sz bt vl) (e : ∀ x : Int, 39 ≤ x → x ≤ 46 → c x = ct x) : TC c sz bt vl := by
  intro t t0 t1
  rw [e (39 + 2 * t) (by omega) (by omega), e (39 + 2 * t + 1) (by omega) (by omega)]
  exact T t t0 t1
theorem TC.dg {c : mbCt} (T : TC ct sz bt vl) (e : dG ct c) : TC c sz bt vl := TC.cg ct T (fun x h0 h1 => e x (by omega) (by simp; omega))
theorem x_judge {t w : Int} (S : SH sh) (C : CP sh ct b β s n pl q N V) (T : TC ct sz bt vl) (ht : i32 t) (hw : i32 w) : Mt YX11_judge (d + 5) [.inr (.inr 0), .inl t, .inl w] sh sh ct (pI fun r c => qJudge β s sz vl t w r ∧ CP sh c b β s n pl q N V ∧ dG ct c) := by
  obtain ⟨X, P⟩ := C
  have L := X.L
  have hB := X.2.2.1.1
  have hcn := X.2.2.1.2.1
  unfold i32 at hw
  have ww := w32_id hw.1 hw.2
  generalize hP : (pI fun r c => qJudge β s sz vl t w r ∧ CP sh c b β s n pl q N V ∧ dG ct c) = Po
  have bad : ¬ (isTr t ∧ 0 ≤ w ∧ w ≤ 3) → G (mkK YX11_judge (d + 5) sh sh Po) 16 [some (.inr (.inr 0)), some (.inl t), some (.inl w), none, none] [] sh ct := by
    intro h
    refine g_bipush (q := 18) dX11_judge_16 (by decide +kernel) rfl ?_
    refine g_ireturn dX11_judge_18 rfl ?_
    rw [← hP]
    exact ⟨_, rfl, Or.inl ⟨h, rfl⟩, ⟨X, P⟩, dG.rf⟩
  refine Mt.of rfl (Nat.le_of_ble_eq_true rfl) ?_
  show G _ 0 [some (.inr (.inr 0)), some (.inl t), some (.inl w), none, none] [] sh ct
  refine g_iload_n (q := 1) dX11_judge_0 rfl rfl ?_
  refine g_callS (q := 4) lX11_214 mX11_isTray sX11_isTray rfl (x_isTray (d + 4) sh _ ht) shLe.rf (rmOk.mk (by omega) (by first | exact shLe.rf | assumption)) (Nat.le_of_ble_eq_true rfl) dX11_judge_1 rfl rfl (kI fun r_ c_ hp => ?_)
  obtain ⟨hr, hq⟩ := hp
  replace hr := hr.symm
  replace hq := hq.symm
  subst hr hq
  refine g_if_eq (q := 7) (tg := 16) dX11_judge_4 (by decide) rfl (fun c_4 => ?_) (fun c_4 => ?_)
  · exact bad (fun h => wb0.mp c_4 h.1)
  · have hi := wbn.mp c_4
    have hi0 := hi.1
    have hi1 := hi.2
    refine g_iload_n (q := 8) dX11_judge_7 rfl rfl ?_
    refine g_if_lt (q := 11) (tg := 16) dX11_judge_8 (by decide) rfl (fun c_8 => ?_) (fun c_8 => ?_)
    · exact bad (fun h => by have := h.2.1; omega)
    · refine g_iload_n (q := 12) dX11_judge_11 rfl rfl ?_
      refine g_iconst (q := 13) dX11_judge_12 rfl ?_
      refine g_icmp_le (q := 16) (tg := 19) dX11_judge_13 (by decide) rfl (fun c_13 => ?_) (fun c_13 => ?_)
      · have hwr : 0 ≤ w ∧ w ≤ 3 := by
          rw [ww, show w32 3 = 3 from rfl] at c_13
          rw [ww] at c_8
          omega
        have htr := L.tray hi.1 hi.2
        have hst := S.tray hi.1 hi.2
        have st := hst.1
        have l38 := htr.1
        obtain ⟨T1, T2⟩ := T t hi.1 hi.2
        refine g_aload_n (q := 20) dX11_judge_19 rfl rfl ?_
        refine g_getA (q := 23) (kI := 7) fX11_46 (by first | assumption | exact S.at _ rfl) dX11_judge_20 rfl rfl (by first | assumption | exact L.at _ _ rfl | exact LK.at (by assumption) _ _ rfl | ((repeat first | rewrite [wr_na (by decide)] | rewrite [wr_nk (by decide)] | rewrite [wa_na (by decide)]); first | assumption | exact LK.at (by assumption) _ _ rfl) | exact rfl) ?_
        refine g_iload_n (q := 24) dX11_judge_23 rfl rfl ?_
        refine g_aaload (q := 25) (S.at _ rfl) (by decide) (by omega) (by omega) (by omega) l38 dX11_judge_24 rfl ?_
        refine s_astore_n_5_3 (q := 26) dX11_judge_25 rfl rfl rfl ?_
        refine g_aload_n (q := 27) dX11_judge_26 rfl rfl ?_
        refine g_callV (q := 30) lX11_217 mX9_isMissing nX9_isMissing rfl (c_isMissing (d + 4) sh _ st) st rfl rfl shLe.rf (rmOk.mk (by omega) (by first | exact shLe.rf | assumption)) (Nat.le_of_ble_eq_true rfl) dX11_judge_27 rfl rfl (kI fun r_ c_ hp => ?_)
        obtain ⟨hr, hq⟩ := hp
        replace hr := hr.symm
        replace hq := hq.symm
        subst hr hq
        rw [T1]
        by_cases hsz : sz t = -1
        · refine g_if_eq (q := 33) (tg := 36) dX11_judge_30 (by decide) rfl (fun c_30 => ?_) (fun c_30 => ?_)
          · exact absurd (by rw [hsz]; rfl) (wb0.mp c_30)
          · refine g_bipush (q := 35) dX11_judge_33 (by decide +kernel) rfl ?_
            refine g_ireturn dX11_judge_35 rfl ?_
            rw [← hP]
            exact ⟨_, rfl, Or.inr (Or.inl ⟨⟨hi, hwr⟩, hsz, rfl⟩), ⟨X, P⟩, dG.rf⟩
        · have h40 : 0 ≤ sz t ∧ sz t ≤ 40 := by omega
          have hnn : (((sz t).toNat : Nat) : Int) = sz t := by omega
          have hrun := dRun_in (β := β) (tl := vl t) (n := (sz t).toNat) (sz t).toNat s (Nat.le_refl _)
          have hwhy := dRun_why (β := β) (tl := vl t) (n := (sz t).toNat) (sz t).toNat s (Nat.le_refl _)
          generalize hR : dRun β (vl t) (sz t).toNat (sz t).toNat s = R at hrun hwhy
          rw [hnn] at hrun hwhy
          have fin : ∀ (r : Int) (c : mbCt), CP sh c b β s n pl q N V → dG ct c → r = (if w = 0 then (if R.2.2 = 0 then -1 else R.1) else if w = 1 then R.2.2 else if w = 2 then R.2.1.1 / 7 else b01 (β.cl R.2.1.1 = true)) → Po (some (.inl r)) c := by
            intro r c h1 h2 h3
            rw [← hP]
            refine ⟨_, rfl, Or.inr (Or.inr ⟨⟨hi, hwr⟩, hsz, ?_⟩), h1, h2⟩
            rw [hR]
            exact h3
          refine g_if_eq (q := 33) (tg := 36) dX11_judge_30 (by decide) rfl (fun c_30 => ?_) (fun c_30 => ?_)
          · refine g_aload_n (q := 37) dX11_judge_36 rfl rfl ?_
            refine g_getO (q := 40) (kI := 5) fX11_34 (by first | assumption | exact S.at _ rfl) dX11_judge_37 rfl rfl (by first | assumption | exact L.at _ _ rfl | exact LK.at (by assumption) _ _ rfl | ((repeat first | rewrite [wr_na (by decide)] | rewrite [wr_nk (by decide)] | rewrite [wa_na (by decide)]); first | assumption | exact LK.at (by assumption) _ _ rfl) | exact rfl) ?_
            refine g_aload_n (q := 41) dX11_judge_40 rfl rfl ?_
            refine g_getO (q := 44) (kI := 4) fX11_30 (by first | assumption | exact S.at _ rfl) dX11_judge_41 rfl rfl (by first | assumption | exact L.at _ _ rfl | exact LK.at (by assumption) _ _ rfl | ((repeat first | rewrite [wr_na (by decide)] | rewrite [wr_nk (by decide)] | rewrite [wa_na (by decide)]); first | assumption | exact LK.at (by assumption) _ _ rfl) | exact rfl) ?_
            refine g_callV (q := 47) lX11_184 mX8_become nX8_become rfl (x_become (d + 3) sh _ S X) (by first | assumption | exact S.at _ rfl) rfl rfl shLe.rf (rmOk.mk (by omega) (by first | exact shLe.rf | assumption)) (Nat.le_of_ble_eq_true rfl) dX11_judge_44 rfl rfl (kN fun c1 hp => ?_)
            obtain ⟨X1, h14, e1⟩ := hp
            have L1 := X1.L
            have P1 : PC c1 β n pl := P.cg (fun x h0 h1 => e1 x (by simp; omega))
            have g1 : dG ct c1 := fun x h0 h1 => e1 x (by simp; omega)
            have T1' := TC.dg ct T g1
            refine g_aload_n (q := 48) dX11_judge_47 rfl rfl ?_
            refine g_aload_n (q := 49) dX11_judge_48 rfl rfl ?_
            refine g_getO (q := 52) (kI := 5) fX11_34 (by first | assumption | exact S.at _ rfl) dX11_judge_49 rfl rfl (by first | assumption | exact L.at _ _ rfl | exact LK.at (by assumption) _ _ rfl | ((repeat first | rewrite [wr_na (by decide)] | rewrite [wr_nk (by decide)] | rewrite [wa_na (by decide)]); first | assumption | exact LK.at (by assumption) _ _ rfl) | exact rfl) ?_
            refine g_aload_n (q := 53) dX11_judge_52 rfl rfl ?_
            refine g_callV (q := 56) lX11_221 mX11_tryDeeds nX11_tryDeeds rfl (x_tryDeeds d sh _ S X1 T1' hi hsz (Or.inr rfl) h14 hB hcn) (by first | assumption | exact S.at _ rfl) rfl rfl shLe.rf (rmOk.mk (by omega) (by first | exact shLe.rf | assumption)) (Nat.le_of_ble_eq_true rfl) dX11_judge_53 rfl rfl (kI fun r c2 hp => ?_)
            rw [hR] at hp
            obtain ⟨rfl, hT, hB2, hc2⟩ := hp
            obtain ⟨⟨s', hs', X2⟩, h14', e2⟩ := hT
            have hse : s' = s := by
              rcases hs' with h | h
              · exact h.2
              · exact absurd h.1 (by decide)
            rw [hse] at X2
            have L2 := X2.L
            have P2 : PC c2 β n pl := P1.cg (fun x h0 h1 => e2.1 x (by simp; omega))
            have g2 : dG ct c2 := g1.tr (dE.g e2 (Or.inr rfl))
            have T2' := TC.dg ct T g2
            obtain ⟨T3, T4⟩ := T2' t hi.1 hi.2
            have wR : w32 R.1 = R.1 := w32_id (by omega) (by omega)
            have wZ : w32 (sz t) = sz t := w32_id (by omega) (by omega)
            have hst14 : c2 14 0 = R.2.1.1 := h14'.1
            refine s_istore_5_4 (q := 58) dX11_judge_56 rfl rfl rfl ?_
            refine g_iload_n (q := 59) dX11_judge_58 rfl rfl ?_
            by_cases h0 : w = 0
            · refine g_tabIn (q := 84) dX11_judge_59 0 (by rw [ww, h0]) (by decide) (by decide) rfl (by decide) ?_
              refine g_iload (q := 86) dX11_judge_84 rfl rfl ?_
              refine g_aload_n (q := 87) dX11_judge_86 rfl rfl ?_
              refine g_getI (q := 90) (kI := 1) fX11_225 (by first | assumption | exact S.at _ rfl) dX11_judge_87 rfl rfl ?_
              rw [T3]
              refine g_icmp_ge (q := 93) (tg := 98) dX11_judge_90 (by decide) rfl (fun c_90 => ?_) (fun c_90 => ?_)
              · rw [wR, wZ] at c_90
                refine g_iconst (q := 99) dX11_judge_98 rfl ?_
                refine g_ireturn dX11_judge_99 rfl ?_
                refine fin _ c2 ⟨X2, P2⟩ g2 ?_
                rw [if_pos h0, if_pos (hrun.2.2.mpr (by omega))]
              · rw [wR, wZ] at c_90
                refine g_iload (q := 95) dX11_judge_93 rfl rfl ?_
                refine g_goto (q := 99) dX11_judge_95 (by decide) ?_
                refine g_ireturn dX11_judge_99 rfl ?_
                refine fin _ c2 ⟨X2, P2⟩ g2 ?_
                rw [if_pos h0, if_neg (fun z => by have := hrun.2.2.mp z; omega)]
            · by_cases h1 : w = 1
              · refine g_tabIn (q := 100) dX11_judge_59 1 (by rw [ww, h1]) (by decide) (by decide) rfl (by decide) ?_
                refine g_iload (q := 102) dX11_judge_100 rfl rfl ?_
                refine g_aload_n (q := 103) dX11_judge_102 rfl rfl ?_
                refine g_getI (q := 106) (kI := 1) fX11_225 (by first | assumption | exact S.at _ rfl) dX11_judge_103 rfl rfl ?_
                rw [T3]
                refine g_icmp_ge (q := 109) (tg := 126) dX11_judge_106 (by decide) rfl (fun c_106 => ?_) (fun c_106 => ?_)
                · rw [wR, wZ] at c_106
                  refine g_iconst (q := 127) dX11_judge_126 rfl ?_
                  refine g_ireturn dX11_judge_127 rfl ?_
                  refine fin _ c2 ⟨X2, P2⟩ g2 ?_
                  rw [if_neg h0, if_pos h1, hrun.2.2.mpr (by omega)]
                · rw [wR, wZ] at c_106
                  have hvl : c2 (39 + 2 * t + 1) R.1 = vl t R.1 ∧ i64 (vl t R.1) := by
                    rcases T4 with h | h
                    · exact absurd h hsz
                    · exact h.2.2 R.1 hrun.1.1 c_106
                  refine g_aload_n (q := 110) dX11_judge_109 rfl rfl ?_
                  refine g_aload_n (q := 111) dX11_judge_110 rfl rfl ?_
                  refine g_getO (q := 114) (kI := 5) fX11_34 (by first | assumption | exact S.at _ rfl) dX11_judge_111 rfl rfl (by first | assumption | exact L.at _ _ rfl | exact LK.at (by assumption) _ _ rfl | ((repeat first | rewrite [wr_na (by decide)] | rewrite [wr_nk (by decide)] | rewrite [wa_na (by decide)]); first | assumption | exact LK.at (by assumption) _ _ rfl) | exact rfl) ?_
                  refine g_aload_n (q := 115) dX11_judge_114 rfl rfl ?_
                  refine g_iload (q := 117) dX11_judge_115 rfl rfl ?_
                  refine g_callV (q := 120) lX11_226 mX9_at nX9_at rfl (c_at (d + 4) sh _ (trAt_t S L2 hi.1 hi.2) (by omega) (by omega) hrun.1.1 (by omega)) st rfl rfl shLe.rf (rmOk.mk (by omega) (by first | exact shLe.rf | assumption)) (Nat.le_of_ble_eq_true rfl) dX11_judge_117 rfl rfl (kL fun r_ c_ hp => ?_)
                  obtain ⟨hr, hq⟩ := hp
                  replace hr := hr.symm
                  replace hq := hq.symm
                  subst hr hq
                  rw [hvl.1]
                  refine g_callV (q := 123) lX11_229 mX11_tryDeed nX11_tryDeed rfl (x_tryDeed (d + 1) sh _ S X2 (z := R.2.1) (Or.inr rfl) h14' hB2 hc2 hvl.2) (by first | assumption | exact S.at _ rfl) rfl rfl shLe.rf (rmOk.mk (by omega) (by first | exact shLe.rf | assumption)) (Nat.le_of_ble_eq_true rfl) dX11_judge_120 rfl rfl (kI fun r c3 hp => ?_)
                  obtain ⟨rfl, ⟨s3, hs3, X3⟩, h143, e3⟩ := hp
                  have hse : s3 = s := by
                    rcases hs3 with h | h
                    · exact h.2
                    · exact absurd h.1 (by decide)
                  rw [hse] at X3
                  refine g_goto (q := 127) dX11_judge_123 (by decide) ?_
                  refine g_ireturn dX11_judge_127 rfl ?_
                  refine fin _ c3 ⟨X3, P2.cg (fun x h0 h1 => e3.1 x (by simp; omega))⟩ (g2.tr (dE.g e3 (Or.inr rfl))) ?_
                  rw [if_neg h0, if_pos h1, hwhy c_106]
              · by_cases h2 : w = 2
                · refine g_tabIn (q := 128) dX11_judge_59 2 (by rw [ww, h2]) (by decide) (by decide) rfl (by decide) ?_
                  refine g_aload_n (q := 129) dX11_judge_128 rfl rfl ?_
                  refine g_getO (q := 132) (kI := 5) fX11_34 (by first | assumption | exact S.at _ rfl) dX11_judge_129 rfl rfl (by first | assumption | exact L.at _ _ rfl | exact LK.at (by assumption) _ _ rfl | ((repeat first | rewrite [wr_na (by decide)] | rewrite [wr_nk (by decide)] | rewrite [wa_na (by decide)]); first | assumption | exact LK.at (by assumption) _ _ rfl) | exact rfl) ?_
                  refine g_getI (q := 135) (kI := 0) fX11_151 (by first | assumption | exact S.at _ rfl) dX11_judge_132 rfl rfl ?_
                  rw [hst14]
                  refine g_callS (q := 138) lX11_195 mX11_moodShown sX11_moodShown rfl (c_moodShown (d + 4) sh _ hB2.1.1 (by have := hB2.1.2; omega)) shLe.rf (rmOk.mk (by omega) (by first | exact shLe.rf | assumption)) (Nat.le_of_ble_eq_true rfl) dX11_judge_135 rfl rfl (kI fun r_ c_ hp => ?_)
                  obtain ⟨hr, hq⟩ := hp
                  replace hr := hr.symm
                  replace hq := hq.symm
                  subst hr hq
                  refine g_ireturn dX11_judge_138 rfl ?_
                  refine fin _ c2 ⟨X2, P2⟩ g2 ?_
                  rw [if_neg h0, if_neg h1, if_pos h2]
                · obtain ⟨mk, hK⟩ := X2.2.2.2.1
                  refine g_tabOut (q := 139) dX11_judge_59 (by rw [ww]; omega) (by decide) ?_
                  refine g_aload_n (q := 140) dX11_judge_139 rfl rfl ?_
                  refine g_getO (q := 143) (kI := 11) fX11_79 (by first | assumption | exact S.at _ rfl) dX11_judge_140 rfl rfl (by first | assumption | exact L.at _ _ rfl | exact LK.at (by assumption) _ _ rfl | ((repeat first | rewrite [wr_na (by decide)] | rewrite [wr_nk (by decide)] | rewrite [wa_na (by decide)]); first | assumption | exact LK.at (by assumption) _ _ rfl) | exact rfl) ?_
                  refine g_aload_n (q := 144) dX11_judge_143 rfl rfl ?_
                  refine g_getO (q := 147) (kI := 5) fX11_34 (by first | assumption | exact S.at _ rfl) dX11_judge_144 rfl rfl (by first | assumption | exact L.at _ _ rfl | exact LK.at (by assumption) _ _ rfl | ((repeat first | rewrite [wr_na (by decide)] | rewrite [wr_nk (by decide)] | rewrite [wa_na (by decide)]); first | assumption | exact LK.at (by assumption) _ _ rfl) | exact rfl) ?_
                  refine g_getI (q := 150) (kI := 0) fX11_151 (by first | assumption | exact S.at _ rfl) dX11_judge_147 rfl rfl ?_
                  rw [hst14]
                  refine g_callV (q := 153) lX11_176 mX4_closes nX4_closes rfl (m_closes (d + 2) sh _ S hK.1 hB2.1.1 hB2.1.2) (by first | assumption | exact S.at _ rfl) rfl rfl shLe.rf (rmOk.mk (by omega) (by first | exact shLe.rf | assumption)) (Nat.le_of_ble_eq_true rfl) dX11_judge_150 rfl rfl (kI fun r c3 hp => ?_)
                  obtain ⟨rfl, m⟩ := hp
                  have X3 := X2.mvt ⟨mk, hK, m⟩
                  have P3 : PC c3 β n pl := P2.cg (fun x h0 h1 => m.1 x (by simp; omega))
                  have g3 : dG ct c3 := g2.tr (fun x h0 h1 => m.1 x h1)
                  refine g_if_eq (q := 156) (tg := 160) dX11_judge_153 (by decide) rfl (fun c_153 => ?_) (fun c_153 => ?_)
                  · refine g_iconst (q := 161) dX11_judge_160 rfl ?_
                    refine g_ireturn dX11_judge_161 rfl ?_
                    refine fin _ c3 ⟨X3, P3⟩ g3 ?_; rw [if_neg h0, if_neg h1, if_neg h2]; first | exact (b01_t (wbn.mp c_153)) | exact (b01_f (wb0.mp c_153))
                  · refine g_iconst (q := 157) dX11_judge_156 rfl ?_
                    refine g_goto (q := 161) dX11_judge_157 (by decide) ?_
                    refine g_ireturn dX11_judge_161 rfl ?_
                    refine fin _ c3 ⟨X3, P3⟩ g3 ?_; rw [if_neg h0, if_neg h1, if_neg h2]; first | exact (b01_t (wbn.mp c_153)) | exact (b01_f (wb0.mp c_153))
          · have h30 := wbn.mp c_30
            rw [w32_id (by omega) (by omega)] at h30
            exact absurd h30 hsz
      · refine bad (fun h => ?_)
        have := h.2.2
        rw [ww, show w32 3 = 3 from rfl] at c_13
        omega
theorem x_perform {t : Int} (S : SH sh) (C : CP sh ct b β s n pl q N V) (T : TC ct sz bt vl) (ht : i32 t) : Mt YX11_perform (d + 5) [.inr (.inr 0), .inl t] sh sh ct (pI fun r c => ((¬ isTr t ∧ r = -2 ∧ CP sh c b β s n pl q N V) ∨ (isTr t ∧ sz t = -1 ∧ r = -6 ∧ CP sh c b β s n pl q N V) ∨ (isTr t ∧ sz t ≠ -1 ∧ r = (dRun β (vl t) (sz t).toNat (sz t).toNat s).1 ∧ ((r = 0 ∧ CP sh c b β s n pl q N V) ∨ (0 < r ∧ CP sh c b β (dRun β (vl t) (sz t).toNat (sz t).toNat s).2.1 (pushN n) (pushP n pl s) q N V)))) ∧ dG ct c) := by
  obtain ⟨X, P⟩ := C
  have L := X.L
  have hB := X.2.2.1.1
  have hcn := X.2.2.1.2.1
  generalize hP : (pI fun r c => ((¬ isTr t ∧ r = -2 ∧ CP sh c b β s n pl q N V) ∨ (isTr t ∧ sz t = -1 ∧ r = -6 ∧ CP sh c b β s n pl q N V) ∨ (isTr t ∧ sz t ≠ -1 ∧ r = (dRun β (vl t) (sz t).toNat (sz t).toNat s).1 ∧ ((r = 0 ∧ CP sh c b β s n pl q N V) ∨ (0 < r ∧ CP sh c b β (dRun β (vl t) (sz t).toNat (sz t).toNat s).2.1 (pushN n) (pushP n pl s) q N V)))) ∧ dG ct c) = Po
  refine Mt.of rfl (Nat.le_of_ble_eq_true rfl) ?_
  show G _ 0 [some (.inr (.inr 0)), some (.inl t), none, none] [] sh ct
  refine g_aload_n (q := 1) dX11_perform_0 rfl rfl ?_
  refine g_iload_n (q := 2) dX11_perform_1 rfl rfl ?_
  refine g_callV (q := 5) lX11_233 mX11_refusedTray nX11_refusedTray rfl (x_refusedTray (d + 3) sh _ S X T ht) (by first | assumption | exact S.at _ rfl) rfl rfl shLe.rf (rmOk.mk (by omega) (by first | exact shLe.rf | assumption)) (Nat.le_of_ble_eq_true rfl) dX11_perform_2 rfl rfl (kI fun r_ c_ hp => ?_)
  obtain ⟨hr, hq⟩ := hp
  replace hr := hr.symm
  replace hq := hq.symm
  subst hr hq
  by_cases hi : isTr t
  · rw [if_pos hi]
    have hi0 := hi.1
    have hi1 := hi.2
    by_cases hsz : sz t = -1
    · rw [if_pos hsz]
      refine s_istore_n_4_2 (q := 6) dX11_perform_5 rfl rfl rfl ?_
      refine g_iload_n (q := 7) dX11_perform_6 rfl rfl ?_
      refine g_if_eq (q := 10) (tg := 12) dX11_perform_7 (by decide) rfl (fun c_7 => ?_) (fun c_7 => ?_)
      · exact absurd c_7 (by decide)
      · refine g_iload_n (q := 11) dX11_perform_10 rfl rfl ?_
        refine g_ireturn dX11_perform_11 rfl ?_
        rw [← hP]
        exact ⟨_, rfl, Or.inr (Or.inl ⟨hi, hsz, rfl, X, P⟩), dG.rf⟩
    · rw [if_neg hsz]
      obtain ⟨T1, T2⟩ := T t hi.1 hi.2
      have h40 : 0 ≤ sz t ∧ sz t ≤ 40 := by omega
      have hnn : (((sz t).toNat : Nat) : Int) = sz t := by omega
      have hrun := dRun_in (β := β) (tl := vl t) (n := (sz t).toNat) (sz t).toNat s (Nat.le_refl _)
      have hnone := dRun_none (β := β) (tl := vl t) (n := (sz t).toNat) s
      generalize hR : dRun β (vl t) (sz t).toNat (sz t).toNat s = R at hP hrun hnone
      refine s_istore_n_4_2 (q := 6) dX11_perform_5 rfl rfl rfl ?_
      refine g_iload_n (q := 7) dX11_perform_6 rfl rfl ?_
      refine g_if_eq (q := 10) (tg := 12) dX11_perform_7 (by decide) rfl (fun c_7 => ?_) (fun c_7 => ?_)
      · refine g_aload_n (q := 13) dX11_perform_12 rfl rfl ?_
        refine g_getO (q := 16) (kI := 5) fX11_34 (by first | assumption | exact S.at _ rfl) dX11_perform_13 rfl rfl (by first | assumption | exact L.at _ _ rfl | exact LK.at (by assumption) _ _ rfl | ((repeat first | rewrite [wr_na (by decide)] | rewrite [wr_nk (by decide)] | rewrite [wa_na (by decide)]); first | assumption | exact LK.at (by assumption) _ _ rfl) | exact rfl) ?_
        refine g_aload_n (q := 17) dX11_perform_16 rfl rfl ?_
        refine g_getO (q := 20) (kI := 4) fX11_30 (by first | assumption | exact S.at _ rfl) dX11_perform_17 rfl rfl (by first | assumption | exact L.at _ _ rfl | exact LK.at (by assumption) _ _ rfl | ((repeat first | rewrite [wr_na (by decide)] | rewrite [wr_nk (by decide)] | rewrite [wa_na (by decide)]); first | assumption | exact LK.at (by assumption) _ _ rfl) | exact rfl) ?_
        refine g_callV (q := 23) lX11_184 mX8_become nX8_become rfl (x_become (d + 3) sh _ S X) (by first | assumption | exact S.at _ rfl) rfl rfl shLe.rf (rmOk.mk (by omega) (by first | exact shLe.rf | assumption)) (Nat.le_of_ble_eq_true rfl) dX11_perform_20 rfl rfl (kN fun c1 hp => ?_)
        obtain ⟨X1, h14, e1⟩ := hp
        have L1 := X1.L
        have P1 : PC c1 β n pl := P.cg (fun x h0 h1 => e1 x (by simp; omega))
        have g1 : dG ct c1 := fun x h0 h1 => e1 x (by simp; omega)
        have T1' := TC.dg ct T g1
        have l38 := (L1.tray hi.1 hi.2).1
        refine g_aload_n (q := 24) dX11_perform_23 rfl rfl ?_
        refine g_aload_n (q := 25) dX11_perform_24 rfl rfl ?_
        refine g_getO (q := 28) (kI := 4) fX11_30 (by first | assumption | exact S.at _ rfl) dX11_perform_25 rfl rfl (by first | assumption | exact L.at _ _ rfl | exact LK.at (by assumption) _ _ rfl | ((repeat first | rewrite [wr_na (by decide)] | rewrite [wr_nk (by decide)] | rewrite [wa_na (by decide)]); first | assumption | exact LK.at (by assumption) _ _ rfl) | exact rfl) ?_
        refine g_aload_n (q := 29) dX11_perform_28 rfl rfl ?_
        refine g_getA (q := 32) (kI := 7) fX11_46 (by first | assumption | exact S.at _ rfl) dX11_perform_29 rfl rfl (by first | assumption | exact L.at _ _ rfl | exact LK.at (by assumption) _ _ rfl | ((repeat first | rewrite [wr_na (by decide)] | rewrite [wr_nk (by decide)] | rewrite [wa_na (by decide)]); first | assumption | exact LK.at (by assumption) _ _ rfl) | exact rfl) ?_
        refine g_iload_n (q := 33) dX11_perform_32 rfl rfl ?_
        refine g_aaload (q := 34) (S.at _ rfl) (by decide) (by omega) (by omega) (by omega) l38 dX11_perform_33 rfl ?_
        refine g_callV (q := 37) lX11_221 mX11_tryDeeds nX11_tryDeeds rfl (x_tryDeeds d sh _ S X1 T1' hi hsz (Or.inl ⟨rfl, rfl⟩) X1.2.1 hB hcn) (by first | assumption | exact S.at _ rfl) rfl rfl shLe.rf (rmOk.mk (by omega) (by first | exact shLe.rf | assumption)) (Nat.le_of_ble_eq_true rfl) dX11_perform_34 rfl rfl (kI fun r c2 hp => ?_)
        rw [hR] at hp
        obtain ⟨rfl, hT, hB2, hc2⟩ := hp
        obtain ⟨⟨s', hs', X2⟩, h12, e2⟩ := hT
        have hse : s' = R.2.1 := by
          rcases hs' with h | h
          · exact absurd h.1 (by decide)
          · exact h.2
        subst hse
        have L2 := X2.L
        have P2 : PC c2 β n pl := P1.cg (fun x h0 h1 => e2.1 x (by simp; omega))
        have g2 : dG ct c2 := g1.tr (dE.g e2 (Or.inl rfl))
        have h14' : sitC c2 14 s := h14.cg (e2.1 14 (by decide)) (e2.1 15 (by decide))
        have wR : w32 R.1 = R.1 := w32_id (by omega) (by omega)
        refine s_istore_n_4_3 (q := 38) dX11_perform_37 rfl rfl rfl ?_
        refine g_iload_n (q := 39) dX11_perform_38 rfl rfl ?_
        refine g_if_le (q := 42) (tg := 53) dX11_perform_39 (by decide) rfl (fun c_39 => ?_) (fun c_39 => ?_)
        · have hr0 : R.1 = 0 := by rw [wR] at c_39; omega
          have hs0 := hnone hr0
          rw [hs0] at X2
          refine g_iload_n (q := 54) dX11_perform_53 rfl rfl ?_
          refine g_ireturn dX11_perform_54 rfl ?_
          rw [← hP]
          exact ⟨_, rfl, Or.inr (Or.inr ⟨hi, hsz, rfl, Or.inl ⟨hr0, X2, P2⟩⟩), g2⟩
        · have hr0 : 0 < R.1 := by rw [wR] at c_39; omega
          refine g_aload_n (q := 43) dX11_perform_42 rfl rfl ?_
          refine g_getO (q := 46) (kI := 6) fX11_40 (by first | assumption | exact S.at _ rfl) dX11_perform_43 rfl rfl (by first | assumption | exact L.at _ _ rfl | exact LK.at (by assumption) _ _ rfl | ((repeat first | rewrite [wr_na (by decide)] | rewrite [wr_nk (by decide)] | rewrite [wa_na (by decide)]); first | assumption | exact LK.at (by assumption) _ _ rfl) | exact rfl) ?_
          refine g_aload_n (q := 47) dX11_perform_46 rfl rfl ?_
          refine g_getO (q := 50) (kI := 5) fX11_34 (by first | assumption | exact S.at _ rfl) dX11_perform_47 rfl rfl (by first | assumption | exact L.at _ _ rfl | exact LK.at (by assumption) _ _ rfl | ((repeat first | rewrite [wr_na (by decide)] | rewrite [wr_nk (by decide)] | rewrite [wa_na (by decide)]); first | assumption | exact LK.at (by assumption) _ _ rfl) | exact rfl) ?_
          refine g_callV (q := 53) lX11_192 mX5_add nX5_add rfl (x_pileAdd (d + 2) sh _ S X2 P2 (Or.inr rfl) h14' hB hcn) (by first | assumption | exact S.at _ rfl) rfl rfl shLe.rf (rmOk.mk (by omega) (by first | exact shLe.rf | assumption)) (Nat.le_of_ble_eq_true rfl) dX11_perform_50 rfl rfl (kN fun c3 hp => ?_)
          obtain ⟨X3, P3, e3⟩ := hp
          refine g_iload_n (q := 54) dX11_perform_53 rfl rfl ?_
          refine g_ireturn dX11_perform_54 rfl ?_
          rw [← hP]
          exact ⟨_, rfl, Or.inr (Or.inr ⟨hi, hsz, rfl, Or.inr ⟨hr0, X3, P3⟩⟩), g2.tr (fun x h0 h1 => e3 x (by omega))⟩
      · exact absurd rfl c_7
  · rw [if_neg hi]
    refine s_istore_n_4_2 (q := 6) dX11_perform_5 rfl rfl rfl ?_
    refine g_iload_n (q := 7) dX11_perform_6 rfl rfl ?_
    refine g_if_eq (q := 10) (tg := 12) dX11_perform_7 (by decide) rfl (fun c_7 => ?_) (fun c_7 => ?_)
    · exact absurd c_7 (by decide)
    · refine g_iload_n (q := 11) dX11_perform_10 rfl rfl ?_
      refine g_ireturn dX11_perform_11 rfl ?_
      rw [← hP]
      exact ⟨_, rfl, Or.inl ⟨hi, rfl, X, P⟩, dG.rf⟩
end
