/-! MinuteBookModel.<init> -/
theorem dX12_init_0 : decode cX12_init 0 = .ok (.aload_n 0, 1) := by decide +kernel
theorem dX12_init_1 : decode cX12_init 1 = .ok (.invokespecial 7, 3) := by decide +kernel
theorem dX12_init_4 : decode cX12_init 4 = .ok (.aload_n 0, 1) := by decide +kernel
theorem dX12_init_5 : decode cX12_init 5 = .ok (.sipush 3120, 3) := by decide +kernel
theorem dX12_init_8 : decode cX12_init 8 = .ok (.newarray .int, 2) := by decide +kernel
theorem dX12_init_10 : decode cX12_init 10 = .ok (.putfield 13, 3) := by decide +kernel
theorem dX12_init_13 : decode cX12_init 13 = .ok (.aload_n 0, 1) := by decide +kernel
theorem dX12_init_14 : decode cX12_init 14 = .ok (.iconst 2, 1) := by decide +kernel
theorem dX12_init_15 : decode cX12_init 15 = .ok (.newarray .boolean, 2) := by decide +kernel
theorem dX12_init_17 : decode cX12_init 17 = .ok (.putfield 17, 3) := by decide +kernel
theorem dX12_init_20 : decode cX12_init 20 = .ok (.aload_n 0, 1) := by decide +kernel
theorem dX12_init_21 : decode cX12_init 21 = .ok (.sipush 900, 3) := by decide +kernel
theorem dX12_init_24 : decode cX12_init 24 = .ok (.newarray .int, 2) := by decide +kernel
theorem dX12_init_26 : decode cX12_init 26 = .ok (.putfield 21, 3) := by decide +kernel
theorem dX12_init_29 : decode cX12_init 29 = .ok (.aload_n 0, 1) := by decide +kernel
theorem dX12_init_30 : decode cX12_init 30 = .ok (.sipush 1040, 3) := by decide +kernel
theorem dX12_init_33 : decode cX12_init 33 = .ok (.newarray .int, 2) := by decide +kernel
theorem dX12_init_35 : decode cX12_init 35 = .ok (.putfield 24, 3) := by decide +kernel
theorem dX12_init_38 : decode cX12_init 38 = .ok (.aload_n 0, 1) := by decide +kernel
theorem dX12_init_39 : decode cX12_init 39 = .ok (.iconst (-1), 1) := by decide +kernel
theorem dX12_init_40 : decode cX12_init 40 = .ok (.putfield 27, 3) := by decide +kernel
theorem dX12_init_43 : decode cX12_init 43 = .ok (.aload_n 0, 1) := by decide +kernel
theorem dX12_init_44 : decode cX12_init 44 = .ok (.sipush 900, 3) := by decide +kernel
theorem dX12_init_47 : decode cX12_init 47 = .ok (.newarray .int, 2) := by decide +kernel
theorem dX12_init_49 : decode cX12_init 49 = .ok (.putfield 30, 3) := by decide +kernel
theorem dX12_init_52 : decode cX12_init 52 = .ok (.aload_n 0, 1) := by decide +kernel
theorem dX12_init_53 : decode cX12_init 53 = .ok (.bipush 6, 2) := by decide +kernel
theorem dX12_init_55 : decode cX12_init 55 = .ok (.newarray .int, 2) := by decide +kernel
theorem dX12_init_57 : decode cX12_init 57 = .ok (.putfield 33, 3) := by decide +kernel
theorem dX12_init_60 : decode cX12_init 60 = .ok (.aload_n 0, 1) := by decide +kernel
theorem dX12_init_61 : decode cX12_init 61 = .ok (.bipush 10, 2) := by decide +kernel
theorem dX12_init_63 : decode cX12_init 63 = .ok (.newarray .int, 2) := by decide +kernel
theorem dX12_init_65 : decode cX12_init 65 = .ok (.putfield 36, 3) := by decide +kernel
theorem dX12_init_68 : decode cX12_init 68 = .ok (.aload_n 0, 1) := by decide +kernel
theorem dX12_init_69 : decode cX12_init 69 = .ok (.ldc 39, 2) := by decide +kernel
theorem dX12_init_71 : decode cX12_init 71 = .ok (.newarray .int, 2) := by decide +kernel
theorem dX12_init_73 : decode cX12_init 73 = .ok (.putfield 40, 3) := by decide +kernel
theorem dX12_init_76 : decode cX12_init 76 = .ok (.aload_n 0, 1) := by decide +kernel
theorem dX12_init_77 : decode cX12_init 77 = .ok (.ldc 43, 2) := by decide +kernel
theorem dX12_init_79 : decode cX12_init 79 = .ok (.newarray .int, 2) := by decide +kernel
theorem dX12_init_81 : decode cX12_init 81 = .ok (.putfield 44, 3) := by decide +kernel
theorem dX12_init_84 : decode cX12_init 84 = .ok (.aload_n 0, 1) := by decide +kernel
theorem dX12_init_85 : decode cX12_init 85 = .ok (.ldc 43, 2) := by decide +kernel
theorem dX12_init_87 : decode cX12_init 87 = .ok (.newarray .int, 2) := by decide +kernel
theorem dX12_init_89 : decode cX12_init 89 = .ok (.putfield 47, 3) := by decide +kernel
theorem dX12_init_92 : decode cX12_init 92 = .ok (.aload_n 0, 1) := by decide +kernel
theorem dX12_init_93 : decode cX12_init 93 = .ok (.sipush 700, 3) := by decide +kernel
theorem dX12_init_96 : decode cX12_init 96 = .ok (.newarray .boolean, 2) := by decide +kernel
theorem dX12_init_98 : decode cX12_init 98 = .ok (.putfield 50, 3) := by decide +kernel
theorem dX12_init_101 : decode cX12_init 101 = .ok (.aload_n 0, 1) := by decide +kernel
theorem dX12_init_102 : decode cX12_init 102 = .ok (.sipush 700, 3) := by decide +kernel
theorem dX12_init_105 : decode cX12_init 105 = .ok (.newarray .long, 2) := by decide +kernel
theorem dX12_init_107 : decode cX12_init 107 = .ok (.putfield 53, 3) := by decide +kernel
theorem dX12_init_110 : decode cX12_init 110 = .ok (.aload_n 0, 1) := by decide +kernel
theorem dX12_init_111 : decode cX12_init 111 = .ok (.sipush 700, 3) := by decide +kernel
theorem dX12_init_114 : decode cX12_init 114 = .ok (.newarray .long, 2) := by decide +kernel
theorem dX12_init_116 : decode cX12_init 116 = .ok (.putfield 57, 3) := by decide +kernel
theorem dX12_init_119 : decode cX12_init 119 = .ok (.aload_n 0, 1) := by decide +kernel
theorem dX12_init_120 : decode cX12_init 120 = .ok (.sipush 9100, 3) := by decide +kernel
theorem dX12_init_123 : decode cX12_init 123 = .ok (.newarray .int, 2) := by decide +kernel
theorem dX12_init_125 : decode cX12_init 125 = .ok (.putfield 60, 3) := by decide +kernel
theorem dX12_init_128 : decode cX12_init 128 = .ok (.aload_n 0, 1) := by decide +kernel
theorem dX12_init_129 : decode cX12_init 129 = .ok (.sipush 700, 3) := by decide +kernel
theorem dX12_init_132 : decode cX12_init 132 = .ok (.newarray .int, 2) := by decide +kernel
theorem dX12_init_134 : decode cX12_init 134 = .ok (.putfield 63, 3) := by decide +kernel
theorem dX12_init_137 : decode cX12_init 137 = .ok (.aload_n 0, 1) := by decide +kernel
theorem dX12_init_138 : decode cX12_init 138 = .ok (.sipush 700, 3) := by decide +kernel
theorem dX12_init_141 : decode cX12_init 141 = .ok (.newarray .int, 2) := by decide +kernel
theorem dX12_init_143 : decode cX12_init 143 = .ok (.putfield 66, 3) := by decide +kernel
theorem dX12_init_146 : decode cX12_init 146 = .ok (.aload_n 0, 1) := by decide +kernel
theorem dX12_init_147 : decode cX12_init 147 = .ok (.sipush 700, 3) := by decide +kernel
theorem dX12_init_150 : decode cX12_init 150 = .ok (.newarray .int, 2) := by decide +kernel
theorem dX12_init_152 : decode cX12_init 152 = .ok (.putfield 69, 3) := by decide +kernel
theorem dX12_init_155 : decode cX12_init 155 = .ok (.aload_n 0, 1) := by decide +kernel
theorem dX12_init_156 : decode cX12_init 156 = .ok (.sipush 700, 3) := by decide +kernel
theorem dX12_init_159 : decode cX12_init 159 = .ok (.newarray .int, 2) := by decide +kernel
theorem dX12_init_161 : decode cX12_init 161 = .ok (.putfield 72, 3) := by decide +kernel
theorem dX12_init_164 : decode cX12_init 164 = .ok (.aload_n 0, 1) := by decide +kernel
theorem dX12_init_165 : decode cX12_init 165 = .ok (.iconst 4, 1) := by decide +kernel
theorem dX12_init_166 : decode cX12_init 166 = .ok (.newarray .int, 2) := by decide +kernel
theorem dX12_init_168 : decode cX12_init 168 = .ok (.dup, 1) := by decide +kernel
theorem dX12_init_169 : decode cX12_init 169 = .ok (.iconst 0, 1) := by decide +kernel
theorem dX12_init_170 : decode cX12_init 170 = .ok (.iconst (-1), 1) := by decide +kernel
theorem dX12_init_171 : decode cX12_init 171 = .ok (.iastore, 1) := by decide +kernel
theorem dX12_init_172 : decode cX12_init 172 = .ok (.dup, 1) := by decide +kernel
theorem dX12_init_173 : decode cX12_init 173 = .ok (.iconst 1, 1) := by decide +kernel
theorem dX12_init_174 : decode cX12_init 174 = .ok (.iconst (-1), 1) := by decide +kernel
theorem dX12_init_175 : decode cX12_init 175 = .ok (.iastore, 1) := by decide +kernel
theorem dX12_init_176 : decode cX12_init 176 = .ok (.dup, 1) := by decide +kernel
theorem dX12_init_177 : decode cX12_init 177 = .ok (.iconst 2, 1) := by decide +kernel
theorem dX12_init_178 : decode cX12_init 178 = .ok (.iconst (-1), 1) := by decide +kernel
theorem dX12_init_179 : decode cX12_init 179 = .ok (.iastore, 1) := by decide +kernel
theorem dX12_init_180 : decode cX12_init 180 = .ok (.dup, 1) := by decide +kernel
theorem dX12_init_181 : decode cX12_init 181 = .ok (.iconst 3, 1) := by decide +kernel
theorem dX12_init_182 : decode cX12_init 182 = .ok (.iconst (-1), 1) := by decide +kernel
theorem dX12_init_183 : decode cX12_init 183 = .ok (.iastore, 1) := by decide +kernel
theorem dX12_init_184 : decode cX12_init 184 = .ok (.putfield 75, 3) := by decide +kernel
theorem dX12_init_187 : decode cX12_init 187 = .ok (.aload_n 0, 1) := by decide +kernel
theorem dX12_init_188 : decode cX12_init 188 = .ok (.iconst 4, 1) := by decide +kernel
theorem dX12_init_189 : decode cX12_init 189 = .ok (.newarray .int, 2) := by decide +kernel
theorem dX12_init_191 : decode cX12_init 191 = .ok (.putfield 78, 3) := by decide +kernel
theorem dX12_init_194 : decode cX12_init 194 = .ok (.aload_n 0, 1) := by decide +kernel
theorem dX12_init_195 : decode cX12_init 195 = .ok (.sipush 160, 3) := by decide +kernel
theorem dX12_init_198 : decode cX12_init 198 = .ok (.newarray .long, 2) := by decide +kernel
theorem dX12_init_200 : decode cX12_init 200 = .ok (.putfield 81, 3) := by decide +kernel
theorem dX12_init_203 : decode cX12_init 203 = .ok (.aload_n 0, 1) := by decide +kernel
theorem dX12_init_204 : decode cX12_init 204 = .ok (.getfield 13, 3) := by decide +kernel
theorem dX12_init_207 : decode cX12_init 207 = .ok (.invokestatic 84, 3) := by decide +kernel
theorem dX12_init_210 : decode cX12_init 210 = .ok (.return_, 1) := by decide +kernel
theorem IS.row {ct c c2 : mbCt} {o i : Nat} {t : List (Option (List Int))} {a : Int} (h : IS ct o c t) (e : eqBut [a] c c2) (ha : ((o + i : Nat) : Int) = a) : IS ct o c2 (t.set i (some [])) := by
  refine ⟨fun i' y hy => ?_, fun z hz => ?_⟩
  · rw [List.getElem?_set] at hy
    by_cases hi : i = i'
    · subst hi
      rw [if_pos rfl] at hy
      by_cases hl : i < t.length
      · rw [if_pos hl] at hy
        have : some [] = y := Option.some.inj hy
        subst this
        intro k v hv
        cases hv
      · rw [if_neg hl] at hy
        cases hy
    · rw [if_neg hi] at hy
      rw [e _ (by simp; omega)]
      exact h.1 i' y hy
  · rw [e z (by simp; omega)]
    exact h.2 z hz
theorem n_X12 (d : Nat) {ct : mbCt} (hc : cellIs (ct 92) (some [0, -1, -1, -1, -1, 0, 0, 0, 0, 0, 0, 0, 0, 0, 0, 0, -1, -1, -1, 0, 0, -1, -1, -1, -1, -1, -1, -1, -1, -1, -1, -1, -1, -1, -1])) : Mt YX12_init (d + 2) [.inr (.inr 92)] (SHL.take 93) (SHL.take 114) ct (pN fun c => (blk c 92 [some [0, 93, 94, 95, 96, 0, 0, 0, 0, 0, 0, 0, 0, 0, -1, 0, 97, 98, 99, 0, 0, 100, 101, 102, 103, 104, 105, 106, 107, 108, 109, 110, 111, 112, 113], some [], none, none, none, none, none, none, none, none, none, none, none, none, none, none, none, none, none, some [-1, -1, -1, -1], none, none] ∧ lowF 92 ct c) ∧ ∀ j, c 93 j = if j = 30 then 6 else 0) := by
  have h := IS.st (o := 92) hc
  refine Mt.of rfl (Nat.le_of_ble_eq_true rfl) ?_
  show G _ 0 [some (.inr (.inr 92))] [] (SHL.take 93) ct
  refine g_aload_n (q := 1) dX12_init_0 rfl rfl ?_
  refine g_objInit (q := 4) lX12_7 tb_oI tb_oC rfl (rmOk.mk (by omega) (shT_le (by omega))) (Nat.le_of_ble_eq_true rfl) dX12_init_1 rfl ?_
  refine g_aload_n (q := 5) dX12_init_4 rfl rfl ?_
  refine g_sipush (q := 8) dX12_init_5 (by decide +kernel) rfl ?_
  refine nT_arr (q := 10) (k := 93) (kd := 20) (n := 3120) (idI := 93) h rfl rfl (by omega) (by omega) (by decide) (by decide) rfl ac_int rfl (by decide) rfl dX12_init_8 rfl (fun c h => ?_)
  replace h : IS ct 92 _ [some [0, -1, -1, -1, -1, 0, 0, 0, 0, 0, 0, 0, 0, 0, 0, 0, -1, -1, -1, 0, 0, -1, -1, -1, -1, -1, -1, -1, -1, -1, -1, -1, -1, -1, -1], none] := h
  refine g_putAF (q := 13) (kI := 1) rfl rfl rfl fX12_13 rfl dX12_init_10 rfl rfl ?_
  refine IS.putk (P := fun c => G _ _ _ _ _ c) (i := 0) (k := 1) h rfl (Nat.le_of_ble_eq_true rfl) rfl rfl (fun c h => ?_)
  replace h : IS ct 92 _ [some [0, 93, -1, -1, -1, 0, 0, 0, 0, 0, 0, 0, 0, 0, 0, 0, -1, -1, -1, 0, 0, -1, -1, -1, -1, -1, -1, -1, -1, -1, -1, -1, -1, -1, -1], none] := h
  refine g_aload_n (q := 14) dX12_init_13 rfl rfl ?_
  refine g_iconst (q := 15) dX12_init_14 rfl ?_
  refine nT_arr (q := 17) (k := 94) (kd := 24) (n := 2) (idI := 94) h rfl rfl (by omega) (by omega) (by decide) (by decide) rfl ac_boolean rfl (by decide) rfl dX12_init_15 rfl (fun c h => ?_)
  replace h : IS ct 92 _ [some [0, 93, -1, -1, -1, 0, 0, 0, 0, 0, 0, 0, 0, 0, 0, 0, -1, -1, -1, 0, 0, -1, -1, -1, -1, -1, -1, -1, -1, -1, -1, -1, -1, -1, -1], none, none] := h
  refine g_putAF (q := 20) (kI := 2) rfl rfl rfl fX12_17 rfl dX12_init_17 rfl rfl ?_
  refine IS.putk (P := fun c => G _ _ _ _ _ c) (i := 0) (k := 2) h rfl (Nat.le_of_ble_eq_true rfl) rfl rfl (fun c h => ?_)
  replace h : IS ct 92 _ [some [0, 93, 94, -1, -1, 0, 0, 0, 0, 0, 0, 0, 0, 0, 0, 0, -1, -1, -1, 0, 0, -1, -1, -1, -1, -1, -1, -1, -1, -1, -1, -1, -1, -1, -1], none, none] := h
  refine g_aload_n (q := 21) dX12_init_20 rfl rfl ?_
  refine g_sipush (q := 24) dX12_init_21 (by decide +kernel) rfl ?_
  refine nT_arr (q := 26) (k := 95) (kd := 20) (n := 900) (idI := 95) h rfl rfl (by omega) (by omega) (by decide) (by decide) rfl ac_int rfl (by decide) rfl dX12_init_24 rfl (fun c h => ?_)
  replace h : IS ct 92 _ [some [0, 93, 94, -1, -1, 0, 0, 0, 0, 0, 0, 0, 0, 0, 0, 0, -1, -1, -1, 0, 0, -1, -1, -1, -1, -1, -1, -1, -1, -1, -1, -1, -1, -1, -1], none, none, none] := h
  refine g_putAF (q := 29) (kI := 3) rfl rfl rfl fX12_21 rfl dX12_init_26 rfl rfl ?_
  refine IS.putk (P := fun c => G _ _ _ _ _ c) (i := 0) (k := 3) h rfl (Nat.le_of_ble_eq_true rfl) rfl rfl (fun c h => ?_)
  replace h : IS ct 92 _ [some [0, 93, 94, 95, -1, 0, 0, 0, 0, 0, 0, 0, 0, 0, 0, 0, -1, -1, -1, 0, 0, -1, -1, -1, -1, -1, -1, -1, -1, -1, -1, -1, -1, -1, -1], none, none, none] := h
  refine g_aload_n (q := 30) dX12_init_29 rfl rfl ?_
  refine g_sipush (q := 33) dX12_init_30 (by decide +kernel) rfl ?_
  refine nT_arr (q := 35) (k := 96) (kd := 20) (n := 1040) (idI := 96) h rfl rfl (by omega) (by omega) (by decide) (by decide) rfl ac_int rfl (by decide) rfl dX12_init_33 rfl (fun c h => ?_)
  replace h : IS ct 92 _ [some [0, 93, 94, 95, -1, 0, 0, 0, 0, 0, 0, 0, 0, 0, 0, 0, -1, -1, -1, 0, 0, -1, -1, -1, -1, -1, -1, -1, -1, -1, -1, -1, -1, -1, -1], none, none, none, none] := h
  refine g_putAF (q := 38) (kI := 4) rfl rfl rfl fX12_24 rfl dX12_init_35 rfl rfl ?_
  refine IS.putk (P := fun c => G _ _ _ _ _ c) (i := 0) (k := 4) h rfl (Nat.le_of_ble_eq_true rfl) rfl rfl (fun c h => ?_)
  replace h : IS ct 92 _ [some [0, 93, 94, 95, 96, 0, 0, 0, 0, 0, 0, 0, 0, 0, 0, 0, -1, -1, -1, 0, 0, -1, -1, -1, -1, -1, -1, -1, -1, -1, -1, -1, -1, -1, -1], none, none, none, none] := h
  refine g_aload_n (q := 39) dX12_init_38 rfl rfl ?_
  refine g_iconst (q := 40) dX12_init_39 rfl ?_
  refine g_putI (q := 43) (kI := 14) fX12_27 rfl dX12_init_40 rfl rfl ?_
  refine IS.putk (P := fun c => G _ _ _ _ _ c) (i := 0) (k := 14) h rfl (Nat.le_of_ble_eq_true rfl) rfl rfl (fun c h => ?_)
  replace h : IS ct 92 _ [some [0, 93, 94, 95, 96, 0, 0, 0, 0, 0, 0, 0, 0, 0, -1, 0, -1, -1, -1, 0, 0, -1, -1, -1, -1, -1, -1, -1, -1, -1, -1, -1, -1, -1, -1], none, none, none, none] := h
  refine g_aload_n (q := 44) dX12_init_43 rfl rfl ?_
  refine g_sipush (q := 47) dX12_init_44 (by decide +kernel) rfl ?_
  refine nT_arr (q := 49) (k := 97) (kd := 20) (n := 900) (idI := 97) h rfl rfl (by omega) (by omega) (by decide) (by decide) rfl ac_int rfl (by decide) rfl dX12_init_47 rfl (fun c h => ?_)
  replace h : IS ct 92 _ [some [0, 93, 94, 95, 96, 0, 0, 0, 0, 0, 0, 0, 0, 0, -1, 0, -1, -1, -1, 0, 0, -1, -1, -1, -1, -1, -1, -1, -1, -1, -1, -1, -1, -1, -1], none, none, none, none, none] := h
  refine g_putAF (q := 52) (kI := 16) rfl rfl rfl fX12_30 rfl dX12_init_49 rfl rfl ?_
  refine IS.putk (P := fun c => G _ _ _ _ _ c) (i := 0) (k := 16) h rfl (Nat.le_of_ble_eq_true rfl) rfl rfl (fun c h => ?_)
  replace h : IS ct 92 _ [some [0, 93, 94, 95, 96, 0, 0, 0, 0, 0, 0, 0, 0, 0, -1, 0, 97, -1, -1, 0, 0, -1, -1, -1, -1, -1, -1, -1, -1, -1, -1, -1, -1, -1, -1], none, none, none, none, none] := h
  refine g_aload_n (q := 53) dX12_init_52 rfl rfl ?_
  refine g_bipush (q := 55) dX12_init_53 (by decide +kernel) rfl ?_
  refine nT_arr (q := 57) (k := 98) (kd := 20) (n := 6) (idI := 98) h rfl rfl (by omega) (by omega) (by decide) (by decide) rfl ac_int rfl (by decide) rfl dX12_init_55 rfl (fun c h => ?_)
  replace h : IS ct 92 _ [some [0, 93, 94, 95, 96, 0, 0, 0, 0, 0, 0, 0, 0, 0, -1, 0, 97, -1, -1, 0, 0, -1, -1, -1, -1, -1, -1, -1, -1, -1, -1, -1, -1, -1, -1], none, none, none, none, none, none] := h
  refine g_putAF (q := 60) (kI := 17) rfl rfl rfl fX12_33 rfl dX12_init_57 rfl rfl ?_
  refine IS.putk (P := fun c => G _ _ _ _ _ c) (i := 0) (k := 17) h rfl (Nat.le_of_ble_eq_true rfl) rfl rfl (fun c h => ?_)
  replace h : IS ct 92 _ [some [0, 93, 94, 95, 96, 0, 0, 0, 0, 0, 0, 0, 0, 0, -1, 0, 97, 98, -1, 0, 0, -1, -1, -1, -1, -1, -1, -1, -1, -1, -1, -1, -1, -1, -1], none, none, none, none, none, none] := h
  refine g_aload_n (q := 61) dX12_init_60 rfl rfl ?_
  refine g_bipush (q := 63) dX12_init_61 (by decide +kernel) rfl ?_
  refine nT_arr (q := 65) (k := 99) (kd := 20) (n := 10) (idI := 99) h rfl rfl (by omega) (by omega) (by decide) (by decide) rfl ac_int rfl (by decide) rfl dX12_init_63 rfl (fun c h => ?_)
  replace h : IS ct 92 _ [some [0, 93, 94, 95, 96, 0, 0, 0, 0, 0, 0, 0, 0, 0, -1, 0, 97, 98, -1, 0, 0, -1, -1, -1, -1, -1, -1, -1, -1, -1, -1, -1, -1, -1, -1], none, none, none, none, none, none, none] := h
  refine g_putAF (q := 68) (kI := 18) rfl rfl rfl fX12_36 rfl dX12_init_65 rfl rfl ?_
  refine IS.putk (P := fun c => G _ _ _ _ _ c) (i := 0) (k := 18) h rfl (Nat.le_of_ble_eq_true rfl) rfl rfl (fun c h => ?_)
  replace h : IS ct 92 _ [some [0, 93, 94, 95, 96, 0, 0, 0, 0, 0, 0, 0, 0, 0, -1, 0, 97, 98, 99, 0, 0, -1, -1, -1, -1, -1, -1, -1, -1, -1, -1, -1, -1, -1, -1], none, none, none, none, none, none, none] := h
  refine g_aload_n (q := 69) dX12_init_68 rfl rfl ?_
  refine g_ldc (q := 71) dX12_init_69 kX12_39 rfl ?_
  refine nT_arr (q := 73) (k := 100) (kd := 20) (n := 70000) (idI := 100) h rfl rfl (by omega) (by omega) (by decide) (by decide) rfl ac_int rfl (by decide) rfl dX12_init_71 rfl (fun c h => ?_)
  replace h : IS ct 92 _ [some [0, 93, 94, 95, 96, 0, 0, 0, 0, 0, 0, 0, 0, 0, -1, 0, 97, 98, 99, 0, 0, -1, -1, -1, -1, -1, -1, -1, -1, -1, -1, -1, -1, -1, -1], none, none, none, none, none, none, none, none] := h
  refine g_putAF (q := 76) (kI := 21) rfl rfl rfl fX12_40 rfl dX12_init_73 rfl rfl ?_
  refine IS.putk (P := fun c => G _ _ _ _ _ c) (i := 0) (k := 21) h rfl (Nat.le_of_ble_eq_true rfl) rfl rfl (fun c h => ?_)
  replace h : IS ct 92 _ [some [0, 93, 94, 95, 96, 0, 0, 0, 0, 0, 0, 0, 0, 0, -1, 0, 97, 98, 99, 0, 0, 100, -1, -1, -1, -1, -1, -1, -1, -1, -1, -1, -1, -1, -1], none, none, none, none, none, none, none, none] := h
  refine g_aload_n (q := 77) dX12_init_76 rfl rfl ?_
  refine g_ldc (q := 79) dX12_init_77 kX12_43 rfl ?_
  refine nT_arr (q := 81) (k := 101) (kd := 20) (n := 44800) (idI := 101) h rfl rfl (by omega) (by omega) (by decide) (by decide) rfl ac_int rfl (by decide) rfl dX12_init_79 rfl (fun c h => ?_)
  replace h : IS ct 92 _ [some [0, 93, 94, 95, 96, 0, 0, 0, 0, 0, 0, 0, 0, 0, -1, 0, 97, 98, 99, 0, 0, 100, -1, -1, -1, -1, -1, -1, -1, -1, -1, -1, -1, -1, -1], none, none, none, none, none, none, none, none, none] := h
  refine g_putAF (q := 84) (kI := 22) rfl rfl rfl fX12_44 rfl dX12_init_81 rfl rfl ?_
  refine IS.putk (P := fun c => G _ _ _ _ _ c) (i := 0) (k := 22) h rfl (Nat.le_of_ble_eq_true rfl) rfl rfl (fun c h => ?_)
  replace h : IS ct 92 _ [some [0, 93, 94, 95, 96, 0, 0, 0, 0, 0, 0, 0, 0, 0, -1, 0, 97, 98, 99, 0, 0, 100, 101, -1, -1, -1, -1, -1, -1, -1, -1, -1, -1, -1, -1], none, none, none, none, none, none, none, none, none] := h
  refine g_aload_n (q := 85) dX12_init_84 rfl rfl ?_
  refine g_ldc (q := 87) dX12_init_85 kX12_43 rfl ?_
  refine nT_arr (q := 89) (k := 102) (kd := 20) (n := 44800) (idI := 102) h rfl rfl (by omega) (by omega) (by decide) (by decide) rfl ac_int rfl (by decide) rfl dX12_init_87 rfl (fun c h => ?_)
  replace h : IS ct 92 _ [some [0, 93, 94, 95, 96, 0, 0, 0, 0, 0, 0, 0, 0, 0, -1, 0, 97, 98, 99, 0, 0, 100, 101, -1, -1, -1, -1, -1, -1, -1, -1, -1, -1, -1, -1], none, none, none, none, none, none, none, none, none, none] := h
  refine g_putAF (q := 92) (kI := 23) rfl rfl rfl fX12_47 rfl dX12_init_89 rfl rfl ?_
  refine IS.putk (P := fun c => G _ _ _ _ _ c) (i := 0) (k := 23) h rfl (Nat.le_of_ble_eq_true rfl) rfl rfl (fun c h => ?_)
  replace h : IS ct 92 _ [some [0, 93, 94, 95, 96, 0, 0, 0, 0, 0, 0, 0, 0, 0, -1, 0, 97, 98, 99, 0, 0, 100, 101, 102, -1, -1, -1, -1, -1, -1, -1, -1, -1, -1, -1], none, none, none, none, none, none, none, none, none, none] := h
  refine g_aload_n (q := 93) dX12_init_92 rfl rfl ?_
  refine g_sipush (q := 96) dX12_init_93 (by decide +kernel) rfl ?_
  refine nT_arr (q := 98) (k := 103) (kd := 24) (n := 700) (idI := 103) h rfl rfl (by omega) (by omega) (by decide) (by decide) rfl ac_boolean rfl (by decide) rfl dX12_init_96 rfl (fun c h => ?_)
  replace h : IS ct 92 _ [some [0, 93, 94, 95, 96, 0, 0, 0, 0, 0, 0, 0, 0, 0, -1, 0, 97, 98, 99, 0, 0, 100, 101, 102, -1, -1, -1, -1, -1, -1, -1, -1, -1, -1, -1], none, none, none, none, none, none, none, none, none, none, none] := h
  refine g_putAF (q := 101) (kI := 24) rfl rfl rfl fX12_50 rfl dX12_init_98 rfl rfl ?_
  refine IS.putk (P := fun c => G _ _ _ _ _ c) (i := 0) (k := 24) h rfl (Nat.le_of_ble_eq_true rfl) rfl rfl (fun c h => ?_)
  replace h : IS ct 92 _ [some [0, 93, 94, 95, 96, 0, 0, 0, 0, 0, 0, 0, 0, 0, -1, 0, 97, 98, 99, 0, 0, 100, 101, 102, 103, -1, -1, -1, -1, -1, -1, -1, -1, -1, -1], none, none, none, none, none, none, none, none, none, none, none] := h
  refine g_aload_n (q := 102) dX12_init_101 rfl rfl ?_
  refine g_sipush (q := 105) dX12_init_102 (by decide +kernel) rfl ?_
  refine nT_arr (q := 107) (k := 104) (kd := 21) (n := 700) (idI := 104) h rfl rfl (by omega) (by omega) (by decide) (by decide) rfl ac_long rfl (by decide) rfl dX12_init_105 rfl (fun c h => ?_)
  replace h : IS ct 92 _ [some [0, 93, 94, 95, 96, 0, 0, 0, 0, 0, 0, 0, 0, 0, -1, 0, 97, 98, 99, 0, 0, 100, 101, 102, 103, -1, -1, -1, -1, -1, -1, -1, -1, -1, -1], none, none, none, none, none, none, none, none, none, none, none, none] := h
  refine g_putAF (q := 110) (kI := 25) rfl rfl rfl fX12_53 rfl dX12_init_107 rfl rfl ?_
  refine IS.putk (P := fun c => G _ _ _ _ _ c) (i := 0) (k := 25) h rfl (Nat.le_of_ble_eq_true rfl) rfl rfl (fun c h => ?_)
  replace h : IS ct 92 _ [some [0, 93, 94, 95, 96, 0, 0, 0, 0, 0, 0, 0, 0, 0, -1, 0, 97, 98, 99, 0, 0, 100, 101, 102, 103, 104, -1, -1, -1, -1, -1, -1, -1, -1, -1], none, none, none, none, none, none, none, none, none, none, none, none] := h
  refine g_aload_n (q := 111) dX12_init_110 rfl rfl ?_
  refine g_sipush (q := 114) dX12_init_111 (by decide +kernel) rfl ?_
  refine nT_arr (q := 116) (k := 105) (kd := 21) (n := 700) (idI := 105) h rfl rfl (by omega) (by omega) (by decide) (by decide) rfl ac_long rfl (by decide) rfl dX12_init_114 rfl (fun c h => ?_)
  replace h : IS ct 92 _ [some [0, 93, 94, 95, 96, 0, 0, 0, 0, 0, 0, 0, 0, 0, -1, 0, 97, 98, 99, 0, 0, 100, 101, 102, 103, 104, -1, -1, -1, -1, -1, -1, -1, -1, -1], none, none, none, none, none, none, none, none, none, none, none, none, none] := h
  refine g_putAF (q := 119) (kI := 26) rfl rfl rfl fX12_57 rfl dX12_init_116 rfl rfl ?_
  refine IS.putk (P := fun c => G _ _ _ _ _ c) (i := 0) (k := 26) h rfl (Nat.le_of_ble_eq_true rfl) rfl rfl (fun c h => ?_)
  replace h : IS ct 92 _ [some [0, 93, 94, 95, 96, 0, 0, 0, 0, 0, 0, 0, 0, 0, -1, 0, 97, 98, 99, 0, 0, 100, 101, 102, 103, 104, 105, -1, -1, -1, -1, -1, -1, -1, -1], none, none, none, none, none, none, none, none, none, none, none, none, none] := h
  refine g_aload_n (q := 120) dX12_init_119 rfl rfl ?_
  refine g_sipush (q := 123) dX12_init_120 (by decide +kernel) rfl ?_
  refine nT_arr (q := 125) (k := 106) (kd := 20) (n := 9100) (idI := 106) h rfl rfl (by omega) (by omega) (by decide) (by decide) rfl ac_int rfl (by decide) rfl dX12_init_123 rfl (fun c h => ?_)
  replace h : IS ct 92 _ [some [0, 93, 94, 95, 96, 0, 0, 0, 0, 0, 0, 0, 0, 0, -1, 0, 97, 98, 99, 0, 0, 100, 101, 102, 103, 104, 105, -1, -1, -1, -1, -1, -1, -1, -1], none, none, none, none, none, none, none, none, none, none, none, none, none, none] := h
  refine g_putAF (q := 128) (kI := 27) rfl rfl rfl fX12_60 rfl dX12_init_125 rfl rfl ?_
  refine IS.putk (P := fun c => G _ _ _ _ _ c) (i := 0) (k := 27) h rfl (Nat.le_of_ble_eq_true rfl) rfl rfl (fun c h => ?_)
  replace h : IS ct 92 _ [some [0, 93, 94, 95, 96, 0, 0, 0, 0, 0, 0, 0, 0, 0, -1, 0, 97, 98, 99, 0, 0, 100, 101, 102, 103, 104, 105, 106, -1, -1, -1, -1, -1, -1, -1], none, none, none, none, none, none, none, none, none, none, none, none, none, none] := h
  refine g_aload_n (q := 129) dX12_init_128 rfl rfl ?_
  refine g_sipush (q := 132) dX12_init_129 (by decide +kernel) rfl ?_
  refine nT_arr (q := 134) (k := 107) (kd := 20) (n := 700) (idI := 107) h rfl rfl (by omega) (by omega) (by decide) (by decide) rfl ac_int rfl (by decide) rfl dX12_init_132 rfl (fun c h => ?_)
  replace h : IS ct 92 _ [some [0, 93, 94, 95, 96, 0, 0, 0, 0, 0, 0, 0, 0, 0, -1, 0, 97, 98, 99, 0, 0, 100, 101, 102, 103, 104, 105, 106, -1, -1, -1, -1, -1, -1, -1], none, none, none, none, none, none, none, none, none, none, none, none, none, none, none] := h
  refine g_putAF (q := 137) (kI := 28) rfl rfl rfl fX12_63 rfl dX12_init_134 rfl rfl ?_
  refine IS.putk (P := fun c => G _ _ _ _ _ c) (i := 0) (k := 28) h rfl (Nat.le_of_ble_eq_true rfl) rfl rfl (fun c h => ?_)
  replace h : IS ct 92 _ [some [0, 93, 94, 95, 96, 0, 0, 0, 0, 0, 0, 0, 0, 0, -1, 0, 97, 98, 99, 0, 0, 100, 101, 102, 103, 104, 105, 106, 107, -1, -1, -1, -1, -1, -1], none, none, none, none, none, none, none, none, none, none, none, none, none, none, none] := h
  refine g_aload_n (q := 138) dX12_init_137 rfl rfl ?_
  refine g_sipush (q := 141) dX12_init_138 (by decide +kernel) rfl ?_
  refine nT_arr (q := 143) (k := 108) (kd := 20) (n := 700) (idI := 108) h rfl rfl (by omega) (by omega) (by decide) (by decide) rfl ac_int rfl (by decide) rfl dX12_init_141 rfl (fun c h => ?_)
  replace h : IS ct 92 _ [some [0, 93, 94, 95, 96, 0, 0, 0, 0, 0, 0, 0, 0, 0, -1, 0, 97, 98, 99, 0, 0, 100, 101, 102, 103, 104, 105, 106, 107, -1, -1, -1, -1, -1, -1], none, none, none, none, none, none, none, none, none, none, none, none, none, none, none, none] := h
  refine g_putAF (q := 146) (kI := 29) rfl rfl rfl fX12_66 rfl dX12_init_143 rfl rfl ?_
  refine IS.putk (P := fun c => G _ _ _ _ _ c) (i := 0) (k := 29) h rfl (Nat.le_of_ble_eq_true rfl) rfl rfl (fun c h => ?_)
  replace h : IS ct 92 _ [some [0, 93, 94, 95, 96, 0, 0, 0, 0, 0, 0, 0, 0, 0, -1, 0, 97, 98, 99, 0, 0, 100, 101, 102, 103, 104, 105, 106, 107, 108, -1, -1, -1, -1, -1], none, none, none, none, none, none, none, none, none, none, none, none, none, none, none, none] := h
  refine g_aload_n (q := 147) dX12_init_146 rfl rfl ?_
  refine g_sipush (q := 150) dX12_init_147 (by decide +kernel) rfl ?_
  refine nT_arr (q := 152) (k := 109) (kd := 20) (n := 700) (idI := 109) h rfl rfl (by omega) (by omega) (by decide) (by decide) rfl ac_int rfl (by decide) rfl dX12_init_150 rfl (fun c h => ?_)
  replace h : IS ct 92 _ [some [0, 93, 94, 95, 96, 0, 0, 0, 0, 0, 0, 0, 0, 0, -1, 0, 97, 98, 99, 0, 0, 100, 101, 102, 103, 104, 105, 106, 107, 108, -1, -1, -1, -1, -1], none, none, none, none, none, none, none, none, none, none, none, none, none, none, none, none, none] := h
  refine g_putAF (q := 155) (kI := 30) rfl rfl rfl fX12_69 rfl dX12_init_152 rfl rfl ?_
  refine IS.putk (P := fun c => G _ _ _ _ _ c) (i := 0) (k := 30) h rfl (Nat.le_of_ble_eq_true rfl) rfl rfl (fun c h => ?_)
  replace h : IS ct 92 _ [some [0, 93, 94, 95, 96, 0, 0, 0, 0, 0, 0, 0, 0, 0, -1, 0, 97, 98, 99, 0, 0, 100, 101, 102, 103, 104, 105, 106, 107, 108, 109, -1, -1, -1, -1], none, none, none, none, none, none, none, none, none, none, none, none, none, none, none, none, none] := h
  refine g_aload_n (q := 156) dX12_init_155 rfl rfl ?_
  refine g_sipush (q := 159) dX12_init_156 (by decide +kernel) rfl ?_
  refine nT_arr (q := 161) (k := 110) (kd := 20) (n := 700) (idI := 110) h rfl rfl (by omega) (by omega) (by decide) (by decide) rfl ac_int rfl (by decide) rfl dX12_init_159 rfl (fun c h => ?_)
  replace h : IS ct 92 _ [some [0, 93, 94, 95, 96, 0, 0, 0, 0, 0, 0, 0, 0, 0, -1, 0, 97, 98, 99, 0, 0, 100, 101, 102, 103, 104, 105, 106, 107, 108, 109, -1, -1, -1, -1], none, none, none, none, none, none, none, none, none, none, none, none, none, none, none, none, none, none] := h
  refine g_putAF (q := 164) (kI := 31) rfl rfl rfl fX12_72 rfl dX12_init_161 rfl rfl ?_
  refine IS.putk (P := fun c => G _ _ _ _ _ c) (i := 0) (k := 31) h rfl (Nat.le_of_ble_eq_true rfl) rfl rfl (fun c h => ?_)
  replace h : IS ct 92 _ [some [0, 93, 94, 95, 96, 0, 0, 0, 0, 0, 0, 0, 0, 0, -1, 0, 97, 98, 99, 0, 0, 100, 101, 102, 103, 104, 105, 106, 107, 108, 109, 110, -1, -1, -1], none, none, none, none, none, none, none, none, none, none, none, none, none, none, none, none, none, none] := h
  refine g_aload_n (q := 165) dX12_init_164 rfl rfl ?_
  refine g_iconst (q := 166) dX12_init_165 rfl ?_
  refine nT_arr (q := 168) (k := 111) (kd := 20) (n := 4) (idI := 111) h rfl rfl (by omega) (by omega) (by decide) (by decide) rfl ac_int rfl (by decide) rfl dX12_init_166 rfl (fun c h => ?_)
  replace h : IS ct 92 _ [some [0, 93, 94, 95, 96, 0, 0, 0, 0, 0, 0, 0, 0, 0, -1, 0, 97, 98, 99, 0, 0, 100, 101, 102, 103, 104, 105, 106, 107, 108, 109, 110, -1, -1, -1], none, none, none, none, none, none, none, none, none, none, none, none, none, none, none, none, none, none, none] := h
  refine g_dup (q := 169) dX12_init_168 rfl rfl ?_
  refine g_iconst (q := 170) dX12_init_169 rfl ?_
  refine g_iconst (q := 171) dX12_init_170 rfl ?_
  replace h := IS.z (i := 19) h rfl 4
  replace h : IS ct 92 _ [some [0, 93, 94, 95, 96, 0, 0, 0, 0, 0, 0, 0, 0, 0, -1, 0, 97, 98, 99, 0, 0, 100, 101, 102, 103, 104, 105, 106, 107, 108, 109, 110, -1, -1, -1], none, none, none, none, none, none, none, none, none, none, none, none, none, none, none, none, none, none, some [0, 0, 0, 0]] := h
  refine g_iastore (q := 172) rfl (by decide) (by decide) (by decide) dX12_init_171 rfl ?_
  refine IS.putk (P := fun c => G _ _ _ _ _ c) (i := 19) (k := 0) h rfl (Nat.le_of_ble_eq_true rfl) rfl rfl (fun c h => ?_)
  replace h : IS ct 92 _ [some [0, 93, 94, 95, 96, 0, 0, 0, 0, 0, 0, 0, 0, 0, -1, 0, 97, 98, 99, 0, 0, 100, 101, 102, 103, 104, 105, 106, 107, 108, 109, 110, -1, -1, -1], none, none, none, none, none, none, none, none, none, none, none, none, none, none, none, none, none, none, some [-1, 0, 0, 0]] := h
  refine g_dup (q := 173) dX12_init_172 rfl rfl ?_
  refine g_iconst (q := 174) dX12_init_173 rfl ?_
  refine g_iconst (q := 175) dX12_init_174 rfl ?_
  refine g_iastore (q := 176) rfl (by decide) (by decide) (by decide) dX12_init_175 rfl ?_
  refine IS.putk (P := fun c => G _ _ _ _ _ c) (i := 19) (k := 1) h rfl (Nat.le_of_ble_eq_true rfl) rfl rfl (fun c h => ?_)
  replace h : IS ct 92 _ [some [0, 93, 94, 95, 96, 0, 0, 0, 0, 0, 0, 0, 0, 0, -1, 0, 97, 98, 99, 0, 0, 100, 101, 102, 103, 104, 105, 106, 107, 108, 109, 110, -1, -1, -1], none, none, none, none, none, none, none, none, none, none, none, none, none, none, none, none, none, none, some [-1, -1, 0, 0]] := h
  refine g_dup (q := 177) dX12_init_176 rfl rfl ?_
  refine g_iconst (q := 178) dX12_init_177 rfl ?_
  refine g_iconst (q := 179) dX12_init_178 rfl ?_
  refine g_iastore (q := 180) rfl (by decide) (by decide) (by decide) dX12_init_179 rfl ?_
  refine IS.putk (P := fun c => G _ _ _ _ _ c) (i := 19) (k := 2) h rfl (Nat.le_of_ble_eq_true rfl) rfl rfl (fun c h => ?_)
  replace h : IS ct 92 _ [some [0, 93, 94, 95, 96, 0, 0, 0, 0, 0, 0, 0, 0, 0, -1, 0, 97, 98, 99, 0, 0, 100, 101, 102, 103, 104, 105, 106, 107, 108, 109, 110, -1, -1, -1], none, none, none, none, none, none, none, none, none, none, none, none, none, none, none, none, none, none, some [-1, -1, -1, 0]] := h
  refine g_dup (q := 181) dX12_init_180 rfl rfl ?_
  refine g_iconst (q := 182) dX12_init_181 rfl ?_
  refine g_iconst (q := 183) dX12_init_182 rfl ?_
  refine g_iastore (q := 184) rfl (by decide) (by decide) (by decide) dX12_init_183 rfl ?_
  refine IS.putk (P := fun c => G _ _ _ _ _ c) (i := 19) (k := 3) h rfl (Nat.le_of_ble_eq_true rfl) rfl rfl (fun c h => ?_)
  replace h : IS ct 92 _ [some [0, 93, 94, 95, 96, 0, 0, 0, 0, 0, 0, 0, 0, 0, -1, 0, 97, 98, 99, 0, 0, 100, 101, 102, 103, 104, 105, 106, 107, 108, 109, 110, -1, -1, -1], none, none, none, none, none, none, none, none, none, none, none, none, none, none, none, none, none, none, some [-1, -1, -1, -1]] := h
  refine g_putAF (q := 187) (kI := 32) rfl rfl rfl fX12_75 rfl dX12_init_184 rfl rfl ?_
  refine IS.putk (P := fun c => G _ _ _ _ _ c) (i := 0) (k := 32) h rfl (Nat.le_of_ble_eq_true rfl) rfl rfl (fun c h => ?_)
  replace h : IS ct 92 _ [some [0, 93, 94, 95, 96, 0, 0, 0, 0, 0, 0, 0, 0, 0, -1, 0, 97, 98, 99, 0, 0, 100, 101, 102, 103, 104, 105, 106, 107, 108, 109, 110, 111, -1, -1], none, none, none, none, none, none, none, none, none, none, none, none, none, none, none, none, none, none, some [-1, -1, -1, -1]] := h
  refine g_aload_n (q := 188) dX12_init_187 rfl rfl ?_
  refine g_iconst (q := 189) dX12_init_188 rfl ?_
  refine nT_arr (q := 191) (k := 112) (kd := 20) (n := 4) (idI := 112) h rfl rfl (by omega) (by omega) (by decide) (by decide) rfl ac_int rfl (by decide) rfl dX12_init_189 rfl (fun c h => ?_)
  replace h : IS ct 92 _ [some [0, 93, 94, 95, 96, 0, 0, 0, 0, 0, 0, 0, 0, 0, -1, 0, 97, 98, 99, 0, 0, 100, 101, 102, 103, 104, 105, 106, 107, 108, 109, 110, 111, -1, -1], none, none, none, none, none, none, none, none, none, none, none, none, none, none, none, none, none, none, some [-1, -1, -1, -1], none] := h
  refine g_putAF (q := 194) (kI := 33) rfl rfl rfl fX12_78 rfl dX12_init_191 rfl rfl ?_
  refine IS.putk (P := fun c => G _ _ _ _ _ c) (i := 0) (k := 33) h rfl (Nat.le_of_ble_eq_true rfl) rfl rfl (fun c h => ?_)
  replace h : IS ct 92 _ [some [0, 93, 94, 95, 96, 0, 0, 0, 0, 0, 0, 0, 0, 0, -1, 0, 97, 98, 99, 0, 0, 100, 101, 102, 103, 104, 105, 106, 107, 108, 109, 110, 111, 112, -1], none, none, none, none, none, none, none, none, none, none, none, none, none, none, none, none, none, none, some [-1, -1, -1, -1], none] := h
  refine g_aload_n (q := 195) dX12_init_194 rfl rfl ?_
  refine g_sipush (q := 198) dX12_init_195 (by decide +kernel) rfl ?_
  refine nT_arr (q := 200) (k := 113) (kd := 21) (n := 160) (idI := 113) h rfl rfl (by omega) (by omega) (by decide) (by decide) rfl ac_long rfl (by decide) rfl dX12_init_198 rfl (fun c h => ?_)
  replace h : IS ct 92 _ [some [0, 93, 94, 95, 96, 0, 0, 0, 0, 0, 0, 0, 0, 0, -1, 0, 97, 98, 99, 0, 0, 100, 101, 102, 103, 104, 105, 106, 107, 108, 109, 110, 111, 112, -1], none, none, none, none, none, none, none, none, none, none, none, none, none, none, none, none, none, none, some [-1, -1, -1, -1], none, none] := h
  refine g_putAF (q := 203) (kI := 34) rfl rfl rfl fX12_81 rfl dX12_init_200 rfl rfl ?_
  refine IS.putk (P := fun c => G _ _ _ _ _ c) (i := 0) (k := 34) h rfl (Nat.le_of_ble_eq_true rfl) rfl rfl (fun c h => ?_)
  replace h : IS ct 92 _ [some [0, 93, 94, 95, 96, 0, 0, 0, 0, 0, 0, 0, 0, 0, -1, 0, 97, 98, 99, 0, 0, 100, 101, 102, 103, 104, 105, 106, 107, 108, 109, 110, 111, 112, 113], none, none, none, none, none, none, none, none, none, none, none, none, none, none, none, none, none, none, some [-1, -1, -1, -1], none, none] := h
  refine g_aload_n (q := 204) dX12_init_203 rfl rfl ?_
  refine g_getA (q := 207) (kI := 1) fX12_13 rfl dX12_init_204 rfl rfl (h.get 0 1 rfl rfl rfl rfl) ?_
  have z : ∀ j, _ = (0 : Int) := (h.at 1 rfl rfl : cellIs (_ : Int → Int) none)
  refine g_callS (q := 210) lX12_84 mX12_plain sX12_plain rfl (tw_plain 0 (SHL.take 114) _ (o := 93) (len := 3120) rfl (by decide) (by decide)) shLe.rf (rmOk.mk (by omega) (shT_le (by omega))) (Nat.le_of_ble_eq_true rfl) dX12_init_207 rfl rfl (kN fun c2 hp => ?_)
  obtain ⟨p1, p2, e2⟩ := hp
  replace h := IS.row (i := 1) h e2 rfl
  refine g_return dX12_init_210 rfl ?_
  refine ⟨rfl, h, fun j => ?_⟩
  by_cases hj : 0 ≤ j ∧ j < 1040
  · exact p1 j hj.1 hj.2
  · rw [p2 j hj, if_neg (by omega)]
    exact z j
