/-! the class's reader: all tokens are laid out -/
theorem dX6_layTokens_0 : decode cX6_layTokens 0 = .ok (.aload_n 0, 1) := by decide +kernel
theorem dX6_layTokens_1 : decode cX6_layTokens 1 = .ok (.iconst 0, 1) := by decide +kernel
theorem dX6_layTokens_2 : decode cX6_layTokens 2 = .ok (.putfield 57, 3) := by decide +kernel
theorem dX6_layTokens_5 : decode cX6_layTokens 5 = .ok (.sipush 200, 3) := by decide +kernel
theorem dX6_layTokens_8 : decode cX6_layTokens 8 = .ok (.istore_n 2, 1) := by decide +kernel
theorem dX6_layTokens_9 : decode cX6_layTokens 9 = .ok (.iconst 0, 1) := by decide +kernel
theorem dX6_layTokens_10 : decode cX6_layTokens 10 = .ok (.istore_n 3, 1) := by decide +kernel
theorem dX6_layTokens_11 : decode cX6_layTokens 11 = .ok (.iconst 0, 1) := by decide +kernel
theorem dX6_layTokens_12 : decode cX6_layTokens 12 = .ok (.istore 4, 2) := by decide +kernel
theorem dX6_layTokens_14 : decode cX6_layTokens 14 = .ok (.iload 4, 2) := by decide +kernel
theorem dX6_layTokens_16 : decode cX6_layTokens 16 = .ok (.iload_n 1, 1) := by decide +kernel
theorem dX6_layTokens_17 : decode cX6_layTokens 17 = .ok (.if_icmp .gt 203, 3) := by decide +kernel
theorem dX6_layTokens_20 : decode cX6_layTokens 20 = .ok (.iload_n 2, 1) := by decide +kernel
theorem dX6_layTokens_21 : decode cX6_layTokens 21 = .ok (.sipush 201, 3) := by decide +kernel
theorem dX6_layTokens_24 : decode cX6_layTokens 24 = .ok (.if_icmp .eq 196, 3) := by decide +kernel
theorem dX6_layTokens_27 : decode cX6_layTokens 27 = .ok (.iload_n 2, 1) := by decide +kernel
theorem dX6_layTokens_28 : decode cX6_layTokens 28 = .ok (.sipush 202, 3) := by decide +kernel
theorem dX6_layTokens_31 : decode cX6_layTokens 31 = .ok (.if_icmp .eq 189, 3) := by decide +kernel
theorem dX6_layTokens_34 : decode cX6_layTokens 34 = .ok (.iload_n 3, 1) := by decide +kernel
theorem dX6_layTokens_35 : decode cX6_layTokens 35 = .ok (.iload_n 1, 1) := by decide +kernel
theorem dX6_layTokens_36 : decode cX6_layTokens 36 = .ok (.if_icmp .ge 31, 3) := by decide +kernel
theorem dX6_layTokens_39 : decode cX6_layTokens 39 = .ok (.aload_n 0, 1) := by decide +kernel
theorem dX6_layTokens_40 : decode cX6_layTokens 40 = .ok (.getfield 22, 3) := by decide +kernel
theorem dX6_layTokens_43 : decode cX6_layTokens 43 = .ok (.iload_n 3, 1) := by decide +kernel
theorem dX6_layTokens_44 : decode cX6_layTokens 44 = .ok (.baload, 1) := by decide +kernel
theorem dX6_layTokens_45 : decode cX6_layTokens 45 = .ok (.bipush 10, 2) := by decide +kernel
theorem dX6_layTokens_47 : decode cX6_layTokens 47 = .ok (.if_icmp .eq 14, 3) := by decide +kernel
theorem dX6_layTokens_50 : decode cX6_layTokens 50 = .ok (.aload_n 0, 1) := by decide +kernel
theorem dX6_layTokens_51 : decode cX6_layTokens 51 = .ok (.getfield 22, 3) := by decide +kernel
theorem dX6_layTokens_54 : decode cX6_layTokens 54 = .ok (.iload_n 3, 1) := by decide +kernel
theorem dX6_layTokens_55 : decode cX6_layTokens 55 = .ok (.baload, 1) := by decide +kernel
theorem dX6_layTokens_56 : decode cX6_layTokens 56 = .ok (.bipush 32, 2) := by decide +kernel
theorem dX6_layTokens_58 : decode cX6_layTokens 58 = .ok (.if_icmp .ne 9, 3) := by decide +kernel
theorem dX6_layTokens_61 : decode cX6_layTokens 61 = .ok (.iinc 3 1, 3) := by decide +kernel
theorem dX6_layTokens_64 : decode cX6_layTokens 64 = .ok (.goto (-30), 3) := by decide +kernel
theorem dX6_layTokens_67 : decode cX6_layTokens 67 = .ok (.iload_n 3, 1) := by decide +kernel
theorem dX6_layTokens_68 : decode cX6_layTokens 68 = .ok (.iload_n 1, 1) := by decide +kernel
theorem dX6_layTokens_69 : decode cX6_layTokens 69 = .ok (.if_icmp .ge 12, 3) := by decide +kernel
theorem dX6_layTokens_72 : decode cX6_layTokens 72 = .ok (.aload_n 0, 1) := by decide +kernel
theorem dX6_layTokens_73 : decode cX6_layTokens 73 = .ok (.getfield 22, 3) := by decide +kernel
theorem dX6_layTokens_76 : decode cX6_layTokens 76 = .ok (.iload_n 3, 1) := by decide +kernel
theorem dX6_layTokens_77 : decode cX6_layTokens 77 = .ok (.baload, 1) := by decide +kernel
theorem dX6_layTokens_78 : decode cX6_layTokens 78 = .ok (.goto 4, 3) := by decide +kernel
theorem dX6_layTokens_81 : decode cX6_layTokens 81 = .ok (.iconst 0, 1) := by decide +kernel
theorem dX6_layTokens_82 : decode cX6_layTokens 82 = .ok (.istore 5, 2) := by decide +kernel
theorem dX6_layTokens_84 : decode cX6_layTokens 84 = .ok (.iload_n 3, 1) := by decide +kernel
theorem dX6_layTokens_85 : decode cX6_layTokens 85 = .ok (.istore 6, 2) := by decide +kernel
theorem dX6_layTokens_87 : decode cX6_layTokens 87 = .ok (.iload_n 3, 1) := by decide +kernel
theorem dX6_layTokens_88 : decode cX6_layTokens 88 = .ok (.iload_n 1, 1) := by decide +kernel
theorem dX6_layTokens_89 : decode cX6_layTokens 89 = .ok (.if_icmp .lt 10, 3) := by decide +kernel
theorem dX6_layTokens_92 : decode cX6_layTokens 92 = .ok (.sipush 201, 3) := by decide +kernel
theorem dX6_layTokens_95 : decode cX6_layTokens 95 = .ok (.istore_n 2, 1) := by decide +kernel
theorem dX6_layTokens_96 : decode cX6_layTokens 96 = .ok (.goto 85, 3) := by decide +kernel
theorem dX6_layTokens_99 : decode cX6_layTokens 99 = .ok (.iload 5, 2) := by decide +kernel
theorem dX6_layTokens_101 : decode cX6_layTokens 101 = .ok (.invokestatic 63, 3) := by decide +kernel
theorem dX6_layTokens_104 : decode cX6_layTokens 104 = .ok (.ifCond .eq 22, 3) := by decide +kernel
theorem dX6_layTokens_107 : decode cX6_layTokens 107 = .ok (.aload_n 0, 1) := by decide +kernel
theorem dX6_layTokens_108 : decode cX6_layTokens 108 = .ok (.iload_n 3, 1) := by decide +kernel
theorem dX6_layTokens_109 : decode cX6_layTokens 109 = .ok (.iload_n 1, 1) := by decide +kernel
theorem dX6_layTokens_110 : decode cX6_layTokens 110 = .ok (.invokevirtual 67, 3) := by decide +kernel
theorem dX6_layTokens_113 : decode cX6_layTokens 113 = .ok (.istore 6, 2) := by decide +kernel
theorem dX6_layTokens_115 : decode cX6_layTokens 115 = .ok (.aload_n 0, 1) := by decide +kernel
theorem dX6_layTokens_116 : decode cX6_layTokens 116 = .ok (.iload_n 3, 1) := by decide +kernel
theorem dX6_layTokens_117 : decode cX6_layTokens 117 = .ok (.iload 6, 2) := by decide +kernel
theorem dX6_layTokens_119 : decode cX6_layTokens 119 = .ok (.invokevirtual 70, 3) := by decide +kernel
theorem dX6_layTokens_122 : decode cX6_layTokens 122 = .ok (.istore_n 2, 1) := by decide +kernel
theorem dX6_layTokens_123 : decode cX6_layTokens 123 = .ok (.goto 58, 3) := by decide +kernel
theorem dX6_layTokens_126 : decode cX6_layTokens 126 = .ok (.iload 5, 2) := by decide +kernel
theorem dX6_layTokens_128 : decode cX6_layTokens 128 = .ok (.invokestatic 73, 3) := by decide +kernel
theorem dX6_layTokens_131 : decode cX6_layTokens 131 = .ok (.ifCond .eq 22, 3) := by decide +kernel
theorem dX6_layTokens_134 : decode cX6_layTokens 134 = .ok (.aload_n 0, 1) := by decide +kernel
theorem dX6_layTokens_135 : decode cX6_layTokens 135 = .ok (.iload_n 3, 1) := by decide +kernel
theorem dX6_layTokens_136 : decode cX6_layTokens 136 = .ok (.iload_n 1, 1) := by decide +kernel
theorem dX6_layTokens_137 : decode cX6_layTokens 137 = .ok (.invokevirtual 76, 3) := by decide +kernel
theorem dX6_layTokens_140 : decode cX6_layTokens 140 = .ok (.istore 6, 2) := by decide +kernel
theorem dX6_layTokens_142 : decode cX6_layTokens 142 = .ok (.aload_n 0, 1) := by decide +kernel
theorem dX6_layTokens_143 : decode cX6_layTokens 143 = .ok (.iload_n 3, 1) := by decide +kernel
theorem dX6_layTokens_144 : decode cX6_layTokens 144 = .ok (.iload 6, 2) := by decide +kernel
theorem dX6_layTokens_146 : decode cX6_layTokens 146 = .ok (.invokevirtual 79, 3) := by decide +kernel
theorem dX6_layTokens_149 : decode cX6_layTokens 149 = .ok (.istore_n 2, 1) := by decide +kernel
theorem dX6_layTokens_150 : decode cX6_layTokens 150 = .ok (.goto 31, 3) := by decide +kernel
theorem dX6_layTokens_153 : decode cX6_layTokens 153 = .ok (.iload 5, 2) := by decide +kernel
theorem dX6_layTokens_155 : decode cX6_layTokens 155 = .ok (.ifCond .le 19, 3) := by decide +kernel
theorem dX6_layTokens_158 : decode cX6_layTokens 158 = .ok (.ldc 82, 2) := by decide +kernel
theorem dX6_layTokens_160 : decode cX6_layTokens 160 = .ok (.iload 5, 2) := by decide +kernel
theorem dX6_layTokens_162 : decode cX6_layTokens 162 = .ok (.i2c, 1) := by decide +kernel
theorem dX6_layTokens_163 : decode cX6_layTokens 163 = .ok (.invokevirtual 84, 3) := by decide +kernel
theorem dX6_layTokens_166 : decode cX6_layTokens 166 = .ok (.ifCond .lt 8, 3) := by decide +kernel
theorem dX6_layTokens_169 : decode cX6_layTokens 169 = .ok (.iload 5, 2) := by decide +kernel
theorem dX6_layTokens_171 : decode cX6_layTokens 171 = .ok (.goto 6, 3) := by decide +kernel
theorem dX6_layTokens_174 : decode cX6_layTokens 174 = .ok (.sipush 202, 3) := by decide +kernel
theorem dX6_layTokens_177 : decode cX6_layTokens 177 = .ok (.istore_n 2, 1) := by decide +kernel
theorem dX6_layTokens_178 : decode cX6_layTokens 178 = .ok (.iinc 6 1, 3) := by decide +kernel
theorem dX6_layTokens_181 : decode cX6_layTokens 181 = .ok (.aload_n 0, 1) := by decide +kernel
theorem dX6_layTokens_182 : decode cX6_layTokens 182 = .ok (.getfield 15, 3) := by decide +kernel
theorem dX6_layTokens_185 : decode cX6_layTokens 185 = .ok (.aload_n 0, 1) := by decide +kernel
theorem dX6_layTokens_186 : decode cX6_layTokens 186 = .ok (.getfield 57, 3) := by decide +kernel
theorem dX6_layTokens_189 : decode cX6_layTokens 189 = .ok (.iload_n 2, 1) := by decide +kernel
theorem dX6_layTokens_190 : decode cX6_layTokens 190 = .ok (.iastore, 1) := by decide +kernel
theorem dX6_layTokens_191 : decode cX6_layTokens 191 = .ok (.aload_n 0, 1) := by decide +kernel
theorem dX6_layTokens_192 : decode cX6_layTokens 192 = .ok (.getfield 19, 3) := by decide +kernel
theorem dX6_layTokens_195 : decode cX6_layTokens 195 = .ok (.aload_n 0, 1) := by decide +kernel
theorem dX6_layTokens_196 : decode cX6_layTokens 196 = .ok (.getfield 57, 3) := by decide +kernel
theorem dX6_layTokens_199 : decode cX6_layTokens 199 = .ok (.iload_n 3, 1) := by decide +kernel
theorem dX6_layTokens_200 : decode cX6_layTokens 200 = .ok (.iastore, 1) := by decide +kernel
theorem dX6_layTokens_201 : decode cX6_layTokens 201 = .ok (.aload_n 0, 1) := by decide +kernel
theorem dX6_layTokens_202 : decode cX6_layTokens 202 = .ok (.dup, 1) := by decide +kernel
theorem dX6_layTokens_203 : decode cX6_layTokens 203 = .ok (.getfield 57, 3) := by decide +kernel
theorem dX6_layTokens_206 : decode cX6_layTokens 206 = .ok (.iconst 1, 1) := by decide +kernel
theorem dX6_layTokens_207 : decode cX6_layTokens 207 = .ok (.iadd, 1) := by decide +kernel
theorem dX6_layTokens_208 : decode cX6_layTokens 208 = .ok (.putfield 57, 3) := by decide +kernel
theorem dX6_layTokens_211 : decode cX6_layTokens 211 = .ok (.iload 6, 2) := by decide +kernel
theorem dX6_layTokens_213 : decode cX6_layTokens 213 = .ok (.istore_n 3, 1) := by decide +kernel
theorem dX6_layTokens_214 : decode cX6_layTokens 214 = .ok (.iinc 4 1, 3) := by decide +kernel
theorem dX6_layTokens_217 : decode cX6_layTokens 217 = .ok (.goto (-203), 3) := by decide +kernel
theorem dX6_layTokens_220 : decode cX6_layTokens 220 = .ok (.return_, 1) := by decide +kernel
abbrev sgn (x : Int) : Prop := hasS 2 x
/-- the token that is read from p on: where it begins and ends, its kind -/
def tokR (f : Int → Int) (n p s e k : Int) : Prop := runE isWs f n p s ∧ ((s = n ∧ e = n ∧ k = 201) ∨ (s < n ∧ ((isLt (f s) ∧ runE isLt f n s e ∧ kindW f s e k) ∨ (isDg (f s) ∧ runE isDg f n s e ∧ k = digK f s e) ∨ (¬ isLt (f s) ∧ ¬ isDg (f s) ∧ e = s + 1 ∧ ((sgn (f s) ∧ k = f s) ∨ (¬ sgn (f s) ∧ k = 202))))))
theorem tokR.uni {f : Int → Int} {n p s e k s2 e2 k2 : Int} (h : tokR f n p s e k) (h2 : tokR f n p s2 e2 k2) : s = s2 ∧ e = e2 ∧ k = k2 := by
  obtain ⟨a, b⟩ := h
  obtain ⟨a2, b2⟩ := h2
  have hs := a.uni a2
  subst hs
  refine ⟨rfl, ?_⟩
  rcases b with ⟨b1, b3, b4⟩ | ⟨b1, b⟩
  · rcases b2 with ⟨c1, c3, c4⟩ | ⟨c1, -⟩
    · exact ⟨by omega, by omega⟩
    · omega
  · rcases b2 with ⟨c1, -, -⟩ | ⟨-, b2⟩
    · omega
    · rcases b with ⟨d1, d2, d3⟩ | ⟨d1, d2, d3⟩ | ⟨d1, d2, d3, d4⟩
      · rcases b2 with ⟨g1, g2, g3⟩ | ⟨g1, g2, g3⟩ | ⟨g1, g2, g3, g4⟩
        · have := d2.uni g2
          subst this
          exact ⟨rfl, d3.uni g3⟩
        · omega
        · exact absurd d1 g1
      · rcases b2 with ⟨g1, g2, g3⟩ | ⟨g1, g2, g3⟩ | ⟨g1, g2, g3, g4⟩
        · omega
        · have := d2.uni g2
          subst this
          exact ⟨rfl, by rw [d3, g3]⟩
        · exact absurd d1 g2
      · rcases b2 with ⟨g1, g2, g3⟩ | ⟨g1, g2, g3⟩ | ⟨g1, g2, g3, g4⟩
        · exact absurd g1 d1
        · exact absurd g1 d2
        · refine ⟨by omega, ?_⟩
          rcases d4 with ⟨x1, x2⟩ | ⟨x1, x2⟩
          · rcases g4 with ⟨y1, y2⟩ | ⟨y1, y2⟩
            · rw [x2, y2]
            · exact absurd x1 y1
          · rcases g4 with ⟨y1, y2⟩ | ⟨y1, y2⟩
            · exact absurd y1 x1
            · rw [x2, y2]
theorem tokR.le {f : Int → Int} {n p s e k : Int} (h : tokR f n p s e k) : p ≤ s ∧ s ≤ e ∧ e ≤ n ∧ (k ≠ 201 → s < e) := by
  obtain ⟨a, b⟩ := h
  have a1 := a.1
  rcases b with ⟨b1, b3, b4⟩ | ⟨b1, b⟩
  · exact ⟨a1.1, by omega, by omega, fun z => absurd b4 z⟩
  · rcases b with ⟨d1, d2, d3⟩ | ⟨d1, d2, d3⟩ | ⟨d1, d2, d3, d4⟩
    · have h1 := d2.1
      have : s ≠ e := fun z => d2.2.2 (by omega) (by rw [← z]; exact d1)
      exact ⟨a1.1, by omega, by omega, fun _ => by omega⟩
    · have h1 := d2.1
      have : s ≠ e := fun z => d2.2.2 (by omega) (by rw [← z]; exact d1)
      exact ⟨a1.1, by omega, by omega, fun _ => by omega⟩
    · exact ⟨a1.1, by omega, by omega, fun _ => by omega⟩
/-- the tokens of a text: kinds, places, ends, how many -/
def TS (f : Int → Int) (n : Int) (K Pl E : Int → Int) (T : Int) : Prop := E 0 = 0 ∧ (1 ≤ T ∧ T ≤ n + 1) ∧ (∀ i, 0 ≤ i → i < T → tokR f n (E i) (Pl i) (E (i + 1)) (K i)) ∧ (∀ i, 0 ≤ i → i < T - 1 → K i ≠ 201 ∧ K i ≠ 202) ∧ (K (T - 1) = 201 ∨ K (T - 1) = 202)
section
variable (d : Nat) (sh : mbSh) (ct : mbCt) {n : Int}
theorem lk_rd {c : mbCt} (L : LK ct) (h1 : ∀ k, k ≠ 5 → c 64 k = ct 64 k) (h2 : eqBut [64, 65, 66] ct c) : LK c := by
  intro x k v hv
  by_cases hx : x = 64
  · subst hx
    by_cases hk : k = 5
    · subst hk; cases hv
    · rw [h1 k hk]; exact L _ _ _ hv
  · by_cases hx1 : x = 65
    · rw [hx1, lkF_none rfl k] at hv; cases hv
    · by_cases hx2 : x = 66
      · rw [hx2, lkF_none rfl k] at hv; cases hv
      · rw [h2 x (by simp; omega)]
        exact L _ _ _ hv
set_option maxRecDepth 4000 in
theorem r_layTokens (S : SH sh) (L : LK ct) (hT : txB (ct 1)) (h0 : 0 ≤ n) (h2 : n ≤ 900) : Mt YX6_layTokens (d + 6) [.inr (.inr 64), .inl n] sh sh ct (pN fun c => (∃ E, TS (ct 1) n (c 65) (c 66) E (c 64 5)) ∧ (∀ k, k ≠ 5 → c 64 k = ct 64 k) ∧ eqBut [64, 65, 66] ct c) := by
  have s1 : shA sh 1 = some (22, 900) := S.at _ rfl
  have s65 : shA sh 65 = some (20, 901) := S.at _ rfl
  have s66 : shA sh 66 = some (20, 901) := S.at _ rfl
  have wn : w32 n = n := w32_id (by omega) (by omega)
  generalize hP : (pN fun c => (∃ E, TS (ct 1) n (c 65) (c 66) E (c 64 5)) ∧ (∀ k, k ≠ 5 → c 64 k = ct 64 k) ∧ eqBut [64, 65, 66] ct c) = Po
  refine Mt.of rfl (Nat.le_of_ble_eq_true rfl) ?_
  show G _ 0 [some (.inr (.inr 64)), some (.inl n), none, none, none, none, none] [] sh ct
  refine g_aload_n (q := 1) dX6_layTokens_0 rfl rfl ?_
  refine g_iconst (q := 2) dX6_layTokens_1 rfl ?_
  refine g_putI (q := 5) (kI := 5) fX6_57 (by first | assumption | exact S.at _ rfl) dX6_layTokens_2 rfl rfl ?_
  refine g_sipush (q := 8) dX6_layTokens_5 (by decide +kernel) rfl ?_
  refine s_istore_n_7_2 (q := 9) dX6_layTokens_8 rfl rfl rfl ?_
  refine g_iconst (q := 10) dX6_layTokens_9 rfl ?_
  refine s_istore_n_7_3 (q := 11) dX6_layTokens_10 rfl rfl rfl ?_
  refine g_iconst (q := 12) dX6_layTokens_11 rfl ?_
  refine s_istore_7_4 (q := 14) dX6_layTokens_12 rfl rfl rfl ?_
  refine g_forA (α := Int × Int × (Int → Int)) (fun i a => [some (.inr (.inr 64)), some (.inl n), some (.inl a.1), some (.inl a.2.1), some (.inl i), none, none]) (fun i a c => (0 ≤ i ∧ 0 ≤ a.2.1 ∧ a.2.1 ≤ n ∧ (-128 ≤ a.1 ∧ a.1 < 100000)) ∧ c 64 5 = i ∧ (a.2.2 0 = 0 ∧ a.2.2 i = a.2.1) ∧ (∀ j, 0 ≤ j → j < i → tokR (ct 1) n (a.2.2 j) (c 66 j) (a.2.2 (j + 1)) (c 65 j)) ∧ (∀ j, 0 ≤ j → j < i - 1 → c 65 j ≠ 201 ∧ c 65 j ≠ 202) ∧ (1 ≤ i → a.1 = c 65 (i - 1)) ∧ (i = 0 → a.1 = 200) ∧ (a.1 ≠ 201 ∧ a.1 ≠ 202 → i ≤ a.2.1) ∧ (∀ k, k ≠ 5 → c 64 k = ct 64 k) ∧ eqBut [64, 65, 66] ct c) (n + 1) ?_ ?_ (i := 0) (a := (200, 0, fun _ => 0)) (by omega) ⟨⟨by omega, by show (0 : Int) ≤ 0; omega, by show (0 : Int) ≤ n; omega, by show (-128 : Int) ≤ 200 ∧ (200 : Int) < 100000; omega⟩, wr_eq, ⟨rfl, rfl⟩, fun j _ _ => by omega, fun j _ _ => by omega, fun h => by omega, fun _ => rfl, fun _ => by show (0 : Int) ≤ 0; omega, fun k hk => wr_nk hk, eqBut.rf.wr (by decide)⟩ (by simp [lsSub])
  · rintro i ⟨kd, nx, E⟩ c hi ⟨⟨i0, n0, n1, kb0, kb1⟩, h5, ⟨hE0, hEi⟩, htok, hns, hkd, hk0, hle, hk5, he⟩ kk
    dsimp only at n0 n1 kb0 kb1 hE0 hEi htok hkd hk0 hle
    have Lc : LK c := lk_rd ct L hk5 he
    have c1 : c 1 = ct 1 := he 1 (by decide)
    have hTc : txB (c 1) := by rw [c1]; exact hT
    have wk : w32 kd = kd := w32_id (by omega) (by omega)
    have stop : (kd = 201 ∨ kd = 202) → G (mkK YX6_layTokens (d + 6) sh sh Po) 220 [some (.inr (.inr 64)), some (.inl n), some (.inl kd), some (.inl nx), some (.inl i), none, none] [] sh c := by
      intro h
      have hi1 : 1 ≤ i := by
        apply Classical.byContradiction
        intro z
        have := hk0 (by omega)
        omega
      refine g_return dX6_layTokens_220 rfl ?_
      rw [← hP]
      refine ⟨rfl, ⟨E, hE0, by rw [h5]; omega, by rw [h5]; exact htok, by rw [h5]; exact hns, ?_⟩, hk5, he⟩
      rw [h5, ← hkd hi1]
      exact h
    /- the token is written down -/
    have lay : ∀ (k s e : Int) (o5 : Option gV), tokR (ct 1) n nx s e k → (-128 ≤ k ∧ k < 100000) → (kd ≠ 201 ∧ kd ≠ 202) → G (mkK YX6_layTokens (d + 6) sh sh Po) 181 [some (.inr (.inr 64)), some (.inl n), some (.inl k), some (.inl s), some (.inl i), o5, some (.inl e)] [] sh c := by
      intro k s e o5 ht hkr hkk
      have hl := ht.le
      have hin := hle hkk
      refine g_aload_n (q := 182) dX6_layTokens_181 rfl rfl ?_
      refine g_getA (q := 185) (kI := 3) fX6_15 (by first | assumption | exact S.at _ rfl) dX6_layTokens_182 rfl rfl (by first | assumption | exact L.at _ _ rfl | exact LK.at (by assumption) _ _ rfl | ((repeat first | rewrite [wr_na (by decide)] | rewrite [wr_nk (by decide)] | rewrite [wa_na (by decide)]); first | assumption | exact LK.at (by assumption) _ _ rfl) | exact rfl) ?_
      refine g_aload_n (q := 186) dX6_layTokens_185 rfl rfl ?_
      refine g_getI (q := 189) (kI := 5) fX6_57 (by first | assumption | exact S.at _ rfl) dX6_layTokens_186 rfl rfl ?_
      rw [h5]
      refine g_iload_n (q := 190) dX6_layTokens_189 rfl rfl ?_
      refine g_iastore (q := 191) (by first | assumption | exact S.at _ rfl) (by omega) (by omega) (by omega) dX6_layTokens_190 rfl ?_
      refine g_aload_n (q := 192) dX6_layTokens_191 rfl rfl ?_
      refine g_getA (q := 195) (kI := 4) fX6_19 (by first | assumption | exact S.at _ rfl) dX6_layTokens_192 rfl rfl (by first | assumption | exact L.at _ _ rfl | exact LK.at (by assumption) _ _ rfl | ((repeat first | rewrite [wr_na (by decide)] | rewrite [wr_nk (by decide)] | rewrite [wa_na (by decide)]); first | assumption | exact LK.at (by assumption) _ _ rfl) | exact rfl) ?_
      have q1 : ∀ v, wr c 65 i v 64 5 = i := fun v => by rw [wr_na (by decide)]; exact h5
      refine g_aload_n (q := 196) dX6_layTokens_195 rfl rfl ?_
      refine g_getI (q := 199) (kI := 5) fX6_57 (by first | assumption | exact S.at _ rfl) dX6_layTokens_196 rfl rfl ?_
      rw [q1]
      refine g_iload_n (q := 200) dX6_layTokens_199 rfl rfl ?_
      refine g_iastore (q := 201) (by first | assumption | exact S.at _ rfl) (by omega) (by omega) (by omega) dX6_layTokens_200 rfl ?_
      refine g_aload_n (q := 202) dX6_layTokens_201 rfl rfl ?_
      refine g_dup (q := 203) dX6_layTokens_202 rfl rfl ?_
      refine g_getI (q := 206) (kI := 5) fX6_57 (by first | assumption | exact S.at _ rfl) dX6_layTokens_203 rfl rfl ?_
      have q2 : ∀ v u, wr (wr c 65 i v) 66 i u 64 5 = i := fun v u => by rw [wr_na (by decide), wr_na (by decide)]; exact h5
      rw [q2]
      refine g_iconst (q := 207) dX6_layTokens_206 rfl ?_
      refine g_iadd (q := 208) dX6_layTokens_207 rfl ?_
      refine g_putI (q := 211) (kI := 5) fX6_57 (by first | assumption | exact S.at _ rfl) dX6_layTokens_208 rfl rfl ?_
      refine g_iload (q := 213) dX6_layTokens_211 rfl rfl ?_
      refine s_istore_n_7_3 (q := 214) dX6_layTokens_213 rfl rfl rfl ?_
      refine s_iinc_7_4 (q := 217) dX6_layTokens_214 rfl rfl rfl ?_
      refine g_goto (q := 14) dX6_layTokens_217 (by decide) ?_
      have e65 : ∀ j, (wr (wr (wr c 65 i k) 66 i s) 64 5 (i + 1)) 65 j = if j = i then k else c 65 j := fun j => by
        rw [wr_na (by decide), wr_na (by decide)]
        by_cases hj : j = i
        · rw [hj, wr_eq, if_pos rfl]
        · rw [wr_nk hj, if_neg hj]
      have e66 : ∀ j, (wr (wr (wr c 65 i k) 66 i s) 64 5 (i + 1)) 66 j = if j = i then s else c 66 j := fun j => by
        rw [wr_na (by decide)]
        by_cases hj : j = i
        · rw [hj, wr_eq, if_pos rfl]
        · rw [wr_nk hj, if_neg hj, wr_na (by decide)]
      have e64 : (wr (wr (wr c 65 i k) 66 i s) 64 5 (i + 1)) 64 5 = i + 1 := wr_eq
      have e64' : ∀ j, j ≠ 5 → (wr (wr (wr c 65 i k) 66 i s) 64 5 (i + 1)) 64 j = ct 64 j := fun j hj => by
        rw [wr_nk hj, wr_na (by decide), wr_na (by decide)]
        exact hk5 j hj
      have ee : eqBut [64, 65, 66] ct (wr (wr (wr c 65 i k) 66 i s) 64 5 (i + 1)) := ((he.wr (by decide)).wr (by decide)).wr (by decide)
      generalize wr (wr (wr c 65 i k) 66 i s) 64 5 (i + 1) = c' at e65 e66 e64 e64' ee
      refine kk (k, e, fun j => if j = i + 1 then e else E j) _ _ (by simp [lsSub]) ⟨⟨by omega, by show 0 ≤ e; omega, by show e ≤ n; omega, hkr⟩, e64, ⟨?_, ?_⟩, fun j j0 j1 => ?_, fun j j0 j1 => ?_, fun _ => ?_, fun z => by omega, fun hq => ?_, e64', ee⟩
      · show (if (0 : Int) = i + 1 then e else E 0) = 0
        rw [if_neg (by omega)]
        exact hE0
      · show (if i + 1 = i + 1 then e else _) = e
        rw [if_pos rfl]
      · show tokR (ct 1) n (if j = i + 1 then e else E j) (c' 66 j) (if j + 1 = i + 1 then e else E (j + 1)) (c' 65 j)
        rw [if_neg (by omega), e65, e66]
        by_cases hj : j = i
        · rw [if_pos hj, if_pos hj, if_pos (by omega), hj, hEi]
          exact ht
        · rw [if_neg hj, if_neg hj, if_neg (by omega)]
          exact htok j j0 (by omega)
      · rw [e65]
        by_cases hj : j = i
        · omega
        · rw [if_neg hj]
          by_cases hj2 : j = i - 1
          · rw [hj2, ← hkd (by omega)]
            exact hkk
          · exact hns j j0 (by omega)
      · show k = c' 65 (i + 1 - 1)
        rw [e65, if_pos (by omega)]
      · show i + 1 ≤ e
        have := hl.2.2.2 hq.1
        omega
    refine g_iload (q := 16) dX6_layTokens_14 rfl rfl ?_
    refine g_iload_n (q := 17) dX6_layTokens_16 rfl rfl ?_
    refine g_icmp_gt (q := 20) (tg := 220) dX6_layTokens_17 (by decide) rfl (fun c_17 => ?_) (fun c_17 => ?_)
    · exact absurd c_17 (by rw [w32_id (x := i) (by omega) (by omega), wn]; omega)
    · refine g_iload_n (q := 21) dX6_layTokens_20 rfl rfl ?_
      refine g_sipush (q := 24) dX6_layTokens_21 (by decide +kernel) rfl ?_
      refine g_icmp_eq (q := 27) (tg := 220) dX6_layTokens_24 (by decide) rfl (fun c_24 => ?_) (fun c_24 => ?_)
      · dsimp only at c_24
        rw [wk, show w32 201 = 201 from rfl] at c_24
        exact stop (Or.inl c_24)
      · dsimp only at c_24
        rw [wk, show w32 201 = 201 from rfl] at c_24
        refine g_iload_n (q := 28) dX6_layTokens_27 rfl rfl ?_
        refine g_sipush (q := 31) dX6_layTokens_28 (by decide +kernel) rfl ?_
        refine g_icmp_eq (q := 34) (tg := 220) dX6_layTokens_31 (by decide) rfl (fun c_31 => ?_) (fun c_31 => ?_)
        · dsimp only at c_31
          rw [wk, show w32 202 = 202 from rfl] at c_31
          exact stop (Or.inr c_31)
        · dsimp only at c_31
          rw [wk, show w32 202 = 202 from rfl] at c_31
          have hkk : kd ≠ 201 ∧ kd ≠ 202 := ⟨c_24, c_31⟩
          have behind : ∀ s, runE isWs (ct 1) n nx s → G (mkK YX6_layTokens (d + 6) sh sh Po) 67 [some (.inr (.inr 64)), some (.inl n), some (.inl kd), some (.inl s), some (.inl i), none, none] [] sh c := by
            intro s hs
            have hs1 := hs.1
            refine g_iload_n (q := 68) dX6_layTokens_67 rfl rfl ?_
            refine g_iload_n (q := 69) dX6_layTokens_68 rfl rfl ?_
            refine g_icmp_ge (q := 72) (tg := 81) dX6_layTokens_69 (by decide) rfl (fun c_69 => ?_) (fun c_69 => ?_)
            · have hsn : s = n := by
                rw [w32_id (x := s) (by omega) (by omega), wn] at c_69
                omega
              refine g_iconst (q := 82) dX6_layTokens_81 rfl ?_
              refine s_istore_7_5 (q := 84) dX6_layTokens_82 rfl rfl rfl ?_
              refine g_iload_n (q := 85) dX6_layTokens_84 rfl rfl ?_
              refine s_istore_7_6 (q := 87) dX6_layTokens_85 rfl rfl rfl ?_
              refine g_iload_n (q := 88) dX6_layTokens_87 rfl rfl ?_
              refine g_iload_n (q := 89) dX6_layTokens_88 rfl rfl ?_
              refine g_icmp_lt (q := 92) (tg := 99) dX6_layTokens_89 (by decide) rfl (fun c_89 => ?_) (fun c_89 => ?_)
              · exact absurd c_89 (by rw [w32_id (x := s) (by omega) (by omega), wn]; omega)
              · refine g_sipush (q := 95) dX6_layTokens_92 (by decide +kernel) rfl ?_
                refine s_istore_n_7_2 (q := 96) dX6_layTokens_95 rfl rfl rfl ?_
                refine g_goto (q := 181) dX6_layTokens_96 (by decide) ?_
                exact lay 201 s s _ ⟨hs, Or.inl ⟨hsn, hsn, rfl⟩⟩ (by omega) hkk
            · have hsn : s < n := by
                rw [w32_id (x := s) (by omega) (by omega), wn] at c_69
                omega
              have hb := hT s (by omega) (by omega)
              refine g_aload_n (q := 73) dX6_layTokens_72 rfl rfl ?_
              refine g_getA (q := 76) (kI := 2) fX6_22 (by first | assumption | exact S.at _ rfl) dX6_layTokens_73 rfl rfl (by first | assumption | exact L.at _ _ rfl | exact LK.at (by assumption) _ _ rfl | ((repeat first | rewrite [wr_na (by decide)] | rewrite [wr_nk (by decide)] | rewrite [wa_na (by decide)]); first | assumption | exact LK.at (by assumption) _ _ rfl) | exact rfl) ?_
              refine g_iload_n (q := 77) dX6_layTokens_76 rfl rfl ?_
              refine g_baload (q := 78) (by first | assumption | exact S.at _ rfl) (by omega) (by omega) (by omega) dX6_layTokens_77 rfl ?_
              rw [c1]
              refine g_goto (q := 82) dX6_layTokens_78 (by decide) ?_
              refine s_istore_7_5 (q := 84) dX6_layTokens_82 rfl rfl rfl ?_
              refine g_iload_n (q := 85) dX6_layTokens_84 rfl rfl ?_
              refine s_istore_7_6 (q := 87) dX6_layTokens_85 rfl rfl rfl ?_
              refine g_iload_n (q := 88) dX6_layTokens_87 rfl rfl ?_
              refine g_iload_n (q := 89) dX6_layTokens_88 rfl rfl ?_
              refine g_icmp_lt (q := 92) (tg := 99) dX6_layTokens_89 (by decide) rfl (fun c_89 => ?_) (fun c_89 => ?_)
              · refine g_iload (q := 101) dX6_layTokens_99 rfl rfl ?_
                refine g_callS (q := 104) lX6_63 mX6_isLetter sX6_isLetter rfl (r_isLetter (d + 5) sh _ hb.1 hb.2) shLe.rf (rmOk.mk (by omega) (by first | exact shLe.rf | assumption)) (Nat.le_of_ble_eq_true rfl) dX6_layTokens_101 rfl rfl (kI fun r_ c_ hp => ?_)
                obtain ⟨hr, hq⟩ := hp
                replace hr := hr.symm
                replace hq := hq.symm
                subst hr hq
                refine g_if_eq (q := 107) (tg := 126) dX6_layTokens_104 (by decide) rfl (fun c_104 => ?_) (fun c_104 => ?_)
                · have hnl := wb0.mp c_104
                  refine g_iload (q := 128) dX6_layTokens_126 rfl rfl ?_
                  refine g_callS (q := 131) lX6_73 mX6_isDigit sX6_isDigit rfl (r_isDigit (d + 5) sh _ hb.1 hb.2) shLe.rf (rmOk.mk (by omega) (by first | exact shLe.rf | assumption)) (Nat.le_of_ble_eq_true rfl) dX6_layTokens_128 rfl rfl (kI fun r_ c_ hp => ?_)
                  obtain ⟨hr, hq⟩ := hp
                  replace hr := hr.symm
                  replace hq := hq.symm
                  subst hr hq
                  refine g_if_eq (q := 134) (tg := 153) dX6_layTokens_131 (by decide) rfl (fun c_131 => ?_) (fun c_131 => ?_)
                  · have hnd := wb0.mp c_131
                    have bad : ¬ sgn (ct 1 s) → G (mkK YX6_layTokens (d + 6) sh sh Po) 174 [some (.inr (.inr 64)), some (.inl n), some (.inl kd), some (.inl s), some (.inl i), some (.inl (ct 1 s)), some (.inl s)] [] sh c := by
                      intro hg
                      refine g_sipush (q := 177) dX6_layTokens_174 (by decide +kernel) rfl ?_
                      refine s_istore_n_7_2 (q := 178) dX6_layTokens_177 rfl rfl rfl ?_
                      refine s_iinc_7_6 (q := 181) dX6_layTokens_178 rfl rfl rfl ?_
                      exact lay 202 s (s + 1) _ ⟨hs, Or.inr ⟨hsn, Or.inr (Or.inr ⟨hnl, hnd, rfl, Or.inr ⟨hg, rfl⟩⟩)⟩⟩ (by omega) hkk
                    refine g_iload (q := 155) dX6_layTokens_153 rfl rfl ?_
                    refine g_if_le (q := 158) (tg := 174) dX6_layTokens_155 (by decide) rfl (fun c_155 => ?_) (fun c_155 => ?_)
                    · refine bad (fun ⟨j, hj, hj2⟩ => ?_)
                      have := strB_in (i := 2) (j := j) (by decide) hj
                      rw [w32_id (x := ct 1 s) (by omega) (by omega)] at c_155
                      omega
                    · rw [w32_id (x := ct 1 s) (by omega) (by omega)] at c_155
                      refine g_ldcS (q := 160) (i := 2) mbX.signs dX6_layTokens_158 rfl ?_
                      refine g_iload (q := 162) dX6_layTokens_160 rfl rfl ?_
                      refine g_i2c (q := 163) (by omega) (by omega) dX6_layTokens_162 rfl ?_
                      refine g_callT (as := [.inl (ct 1 s)]) (q := 166) (by decide) lX6_84 mJ0_indexOf_0f7a4 nJ0_indexOf_0f7a4 rfl rfl (j_indexOf (d + 2) sh c (i := 2) (by decide) (by omega) (by omega)) shLe.rf (rmOk.mk (by omega) shLe.rf) (Nat.le_of_ble_eq_true rfl) dX6_layTokens_163 rfl rfl (kI fun r c2 hp => ?_)
                      obtain ⟨hp1, hp2, rfl⟩ := hp
                      have wr0 : w32 r = r := w32_id (by omega) (by omega)
                      refine g_if_lt (q := 169) (tg := 174) dX6_layTokens_166 (by decide) rfl (fun c_166 => ?_) (fun c_166 => ?_)
                      · rw [wr0] at c_166
                        exact bad (fun z => by have := hp1.mpr z; omega)
                      · rw [wr0] at c_166
                        refine g_iload (q := 171) dX6_layTokens_169 rfl rfl ?_
                        refine g_goto (q := 177) dX6_layTokens_171 (by decide) ?_
                        refine s_istore_n_7_2 (q := 178) dX6_layTokens_177 rfl rfl rfl ?_
                        refine s_iinc_7_6 (q := 181) dX6_layTokens_178 rfl rfl rfl ?_
                        exact lay (ct 1 s) s (s + 1) _ ⟨hs, Or.inr ⟨hsn, Or.inr (Or.inr ⟨hnl, hnd, rfl, Or.inl ⟨hp1.mp (by omega), rfl⟩⟩)⟩⟩ (by omega) hkk
                  · have hdg := wbn.mp c_131
                    refine g_aload_n (q := 135) dX6_layTokens_134 rfl rfl ?_
                    refine g_iload_n (q := 136) dX6_layTokens_135 rfl rfl ?_
                    refine g_iload_n (q := 137) dX6_layTokens_136 rfl rfl ?_
                    refine g_callV (q := 140) lX6_76 mX6_endOfDigits nX6_endOfDigits rfl (r_endOfDigits (d + 4) sh _ S Lc hTc (by omega) (by omega) h2) (by first | assumption | exact S.at _ rfl) rfl rfl shLe.rf (rmOk.mk (by omega) (by first | exact shLe.rf | assumption)) (Nat.le_of_ble_eq_true rfl) dX6_layTokens_137 rfl rfl (kI fun e c2 hp => ?_)
                    obtain ⟨hrun, rfl⟩ := hp
                    rw [c1] at hrun
                    have hr1 := hrun.1
                    refine s_istore_7_6 (q := 142) dX6_layTokens_140 rfl rfl rfl ?_
                    refine g_aload_n (q := 143) dX6_layTokens_142 rfl rfl ?_
                    refine g_iload_n (q := 144) dX6_layTokens_143 rfl rfl ?_
                    refine g_iload (q := 146) dX6_layTokens_144 rfl rfl ?_
                    refine g_callV (q := 149) lX6_79 mX6_kindOfDigits nX6_kindOfDigits rfl (r_kindOfDigits (d + 5) sh _ S Lc (by omega) hr1.1 (by omega)) (by first | assumption | exact S.at _ rfl) rfl rfl shLe.rf (rmOk.mk (by omega) (by first | exact shLe.rf | assumption)) (Nat.le_of_ble_eq_true rfl) dX6_layTokens_146 rfl rfl (kI fun r_ c_ hp => ?_)
                    obtain ⟨hr, hq⟩ := hp
                    replace hr := hr.symm
                    replace hq := hq.symm
                    subst hr hq
                    rw [c1]
                    have hdk : 0 ≤ digK (ct 1) s e ∧ digK (ct 1) s e < 100000 := by
                      unfold digK
                      split
                      · omega
                      · have hv : ∀ m : Nat, (m : Int) ≤ e - s → m ≤ 3 → 0 ≤ numV (ct 1) s m ∧ numV (ct 1) s m ≤ (if m = 0 then 0 else if m = 1 then 9 else if m = 2 then 99 else 999) := by
                          intro m
                          match m with
                          | 0 => intro _ _; exact ⟨Int.le_refl _, Int.le_refl _⟩
                          | 1 =>
                            intro h _
                            have g0 := hrun.2.1 s (by omega) (by omega)
                            show 0 ≤ 0 * 10 + ct 1 (s + ((0 : Nat) : Int)) - 48 ∧ 0 * 10 + ct 1 (s + ((0 : Nat) : Int)) - 48 ≤ 9
                            rw [show s + ((0 : Nat) : Int) = s by omega]
                            omega
                          | 2 =>
                            intro h _
                            have g0 := hrun.2.1 s (by omega) (by omega)
                            have g1 := hrun.2.1 (s + 1) (by omega) (by omega)
                            show 0 ≤ (0 * 10 + ct 1 (s + ((0 : Nat) : Int)) - 48) * 10 + ct 1 (s + ((1 : Nat) : Int)) - 48 ∧ (0 * 10 + ct 1 (s + ((0 : Nat) : Int)) - 48) * 10 + ct 1 (s + ((1 : Nat) : Int)) - 48 ≤ 99
                            rw [show s + ((0 : Nat) : Int) = s by omega, show s + ((1 : Nat) : Int) = s + 1 by omega]
                            omega
                          | 3 =>
                            intro h _
                            have g0 := hrun.2.1 s (by omega) (by omega)
                            have g1 := hrun.2.1 (s + 1) (by omega) (by omega)
                            have g2 := hrun.2.1 (s + 2) (by omega) (by omega)
                            show 0 ≤ ((0 * 10 + ct 1 (s + ((0 : Nat) : Int)) - 48) * 10 + ct 1 (s + ((1 : Nat) : Int)) - 48) * 10 + ct 1 (s + ((2 : Nat) : Int)) - 48 ∧ ((0 * 10 + ct 1 (s + ((0 : Nat) : Int)) - 48) * 10 + ct 1 (s + ((1 : Nat) : Int)) - 48) * 10 + ct 1 (s + ((2 : Nat) : Int)) - 48 ≤ 999
                            rw [show s + ((0 : Nat) : Int) = s by omega, show s + ((1 : Nat) : Int) = s + 1 by omega, show s + ((2 : Nat) : Int) = s + 2 by omega]
                            omega
                          | m + 4 => intro _ h; omega
                        have := hv (e - s).toNat (by omega) (by omega)
                        split at this <;> (try split at this) <;> (try split at this) <;> omega
                    refine s_istore_n_7_2 (q := 150) dX6_layTokens_149 rfl rfl rfl ?_
                    refine g_goto (q := 181) dX6_layTokens_150 (by decide) ?_
                    exact lay _ s e _ ⟨hs, Or.inr ⟨hsn, Or.inr (Or.inl ⟨hdg, hrun, rfl⟩)⟩⟩ (by omega) hkk
                · have hlt := wbn.mp c_104
                  refine g_aload_n (q := 108) dX6_layTokens_107 rfl rfl ?_
                  refine g_iload_n (q := 109) dX6_layTokens_108 rfl rfl ?_
                  refine g_iload_n (q := 110) dX6_layTokens_109 rfl rfl ?_
                  refine g_callV (q := 113) lX6_67 mX6_endOfWord nX6_endOfWord rfl (r_endOfWord (d + 4) sh _ S Lc hTc (by omega) (by omega) h2) (by first | assumption | exact S.at _ rfl) rfl rfl shLe.rf (rmOk.mk (by omega) (by first | exact shLe.rf | assumption)) (Nat.le_of_ble_eq_true rfl) dX6_layTokens_110 rfl rfl (kI fun e c2 hp => ?_)
                  obtain ⟨hrun, rfl⟩ := hp
                  rw [c1] at hrun
                  have hr1 := hrun.1
                  refine s_istore_7_6 (q := 115) dX6_layTokens_113 rfl rfl rfl ?_
                  refine g_aload_n (q := 116) dX6_layTokens_115 rfl rfl ?_
                  refine g_iload_n (q := 117) dX6_layTokens_116 rfl rfl ?_
                  refine g_iload (q := 119) dX6_layTokens_117 rfl rfl ?_
                  refine g_callV (q := 122) lX6_70 mX6_kindOfWord nX6_kindOfWord rfl (r_kindOfWord d sh _ S Lc hTc (by omega) hr1.1 (by omega)) (by first | assumption | exact S.at _ rfl) rfl rfl shLe.rf (rmOk.mk (by omega) (by first | exact shLe.rf | assumption)) (Nat.le_of_ble_eq_true rfl) dX6_layTokens_119 rfl rfl (kI fun k c3 hp => ?_)
                  obtain ⟨hkw, rfl⟩ := hp
                  rw [c1] at hkw
                  have hki := hkw.in
                  refine s_istore_n_7_2 (q := 123) dX6_layTokens_122 rfl rfl rfl ?_
                  refine g_goto (q := 181) dX6_layTokens_123 (by decide) ?_
                  exact lay k s e _ ⟨hs, Or.inr ⟨hsn, Or.inl ⟨hlt, hrun, hkw⟩⟩⟩ (by omega) hkk
              · exact absurd c_89 (by rw [w32_id (x := s) (by omega) (by omega), wn]; omega)
          refine g_for (fun k => [some (.inr (.inr 64)), some (.inl n), some (.inl kd), some (.inl k), some (.inl i), none, none]) (fun k c' => nx ≤ k ∧ c' = c ∧ ∀ j, nx ≤ j → j < k → isWs (ct 1 j)) n ?_ ?_ (i := nx) n1 ⟨Int.le_refl _, rfl, fun j a b => by omega⟩ (by simp [lsSub])
          · rintro k c' hk ⟨k0, rfl, hj⟩ kk2
            have hb := hT k (by omega) (by omega)
            have wb : w32 (ct 1 k) = ct 1 k := w32_id (by omega) (by omega)
            have more : isWs (ct 1 k) → G (mkK YX6_layTokens (d + 6) sh sh Po) 61 [some (.inr (.inr 64)), some (.inl n), some (.inl kd), some (.inl k), some (.inl i), none, none] [] sh c' := by
              intro hw
              refine s_iinc_7_3 (q := 64) dX6_layTokens_61 rfl rfl rfl ?_
              refine g_goto (q := 34) dX6_layTokens_64 (by decide) ?_
              refine kk2 _ _ (by simp [lsSub]) ⟨by omega, rfl, fun j a b => ?_⟩
              by_cases h : j = k
              · rw [h]; exact hw
              · exact hj j a (by omega)
            refine g_iload_n (q := 35) dX6_layTokens_34 rfl rfl ?_
            refine g_iload_n (q := 36) dX6_layTokens_35 rfl rfl ?_
            refine g_icmp_ge (q := 39) (tg := 67) dX6_layTokens_36 (by decide) rfl (fun c_36 => ?_) (fun c_36 => ?_)
            · exact absurd c_36 (by rw [w32_id (x := k) (by omega) (by omega), wn]; omega)
            · refine g_aload_n (q := 40) dX6_layTokens_39 rfl rfl ?_
              refine g_getA (q := 43) (kI := 2) fX6_22 (by first | assumption | exact S.at _ rfl) dX6_layTokens_40 rfl rfl (by first | assumption | exact L.at _ _ rfl | exact LK.at (by assumption) _ _ rfl | ((repeat first | rewrite [wr_na (by decide)] | rewrite [wr_nk (by decide)] | rewrite [wa_na (by decide)]); first | assumption | exact LK.at (by assumption) _ _ rfl) | exact rfl) ?_
              refine g_iload_n (q := 44) dX6_layTokens_43 rfl rfl ?_
              refine g_baload (q := 45) (by first | assumption | exact S.at _ rfl) (by omega) (by omega) (by omega) dX6_layTokens_44 rfl ?_
              rw [c1]
              refine g_bipush (q := 47) dX6_layTokens_45 (by decide +kernel) rfl ?_
              refine g_icmp_eq (q := 50) (tg := 61) dX6_layTokens_47 (by decide) rfl (fun c_47 => ?_) (fun c_47 => ?_)
              · rw [wb, show w32 10 = 10 from rfl] at c_47
                exact more (Or.inl c_47)
              · rw [wb, show w32 10 = 10 from rfl] at c_47
                refine g_aload_n (q := 51) dX6_layTokens_50 rfl rfl ?_
                refine g_getA (q := 54) (kI := 2) fX6_22 (by first | assumption | exact S.at _ rfl) dX6_layTokens_51 rfl rfl (by first | assumption | exact L.at _ _ rfl | exact LK.at (by assumption) _ _ rfl | ((repeat first | rewrite [wr_na (by decide)] | rewrite [wr_nk (by decide)] | rewrite [wa_na (by decide)]); first | assumption | exact LK.at (by assumption) _ _ rfl) | exact rfl) ?_
                refine g_iload_n (q := 55) dX6_layTokens_54 rfl rfl ?_
                refine g_baload (q := 56) (by first | assumption | exact S.at _ rfl) (by omega) (by omega) (by omega) dX6_layTokens_55 rfl ?_
                rw [c1]
                refine g_bipush (q := 58) dX6_layTokens_56 (by decide +kernel) rfl ?_
                refine g_icmp_ne (q := 61) (tg := 67) dX6_layTokens_58 (by decide) rfl (fun c_58 => ?_) (fun c_58 => ?_)
                · rw [wb, show w32 32 = 32 from rfl] at c_58
                  exact behind k ⟨⟨k0, by omega⟩, hj, fun _ z => by rcases z with z | z <;> omega⟩
                · rw [wb, show w32 32 = 32 from rfl] at c_58
                  exact more (Or.inr (by omega))
          · rintro c' ⟨k0, rfl, hj⟩
            refine g_iload_n (q := 35) dX6_layTokens_34 rfl rfl ?_
            refine g_iload_n (q := 36) dX6_layTokens_35 rfl rfl ?_
            refine g_icmp_ge (q := 39) (tg := 67) dX6_layTokens_36 (by decide) rfl (fun c_36 => ?_) (fun c_36 => ?_)
            · exact behind n ⟨⟨k0, Int.le_refl _⟩, hj, fun z => by omega⟩
            · exact absurd c_36 (Int.lt_irrefl _)
  · rintro ⟨kd, nx, E⟩ c ⟨⟨i0, n0, n1, kb0, kb1⟩, h5, ⟨hE0, hEi⟩, htok, hns, hkd, hk0, hle, hk5, he⟩
    dsimp only at n0 n1 kb0 kb1 hE0 hEi htok hkd hk0 hle
    have hend : kd = 201 ∨ kd = 202 := by
      apply Classical.byContradiction
      intro z
      have := hle ⟨fun h => z (Or.inl h), fun h => z (Or.inr h)⟩
      omega
    refine g_iload (q := 16) dX6_layTokens_14 rfl rfl ?_
    refine g_iload_n (q := 17) dX6_layTokens_16 rfl rfl ?_
    refine g_icmp_gt (q := 20) (tg := 220) dX6_layTokens_17 (by decide) rfl (fun c_17 => ?_) (fun c_17 => ?_)
    · refine g_return dX6_layTokens_220 rfl ?_
      rw [← hP]
      refine ⟨rfl, ⟨E, hE0, by rw [h5]; omega, by rw [h5]; exact htok, by rw [h5]; exact hns, ?_⟩, hk5, he⟩
      rw [h5, ← hkd (by omega)]
      exact hend
    · exact absurd c_17 (by rw [w32_id (x := n + 1) (by omega) (by omega), wn]; omega)
end
