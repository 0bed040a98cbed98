/-! Game: two secretaries by turns -/
def gW (sc : Int → List Int) (en : Int → Prop) : Nat → Bool → Int → Prop
  | 0, _, st => en st
  | n + 1, true, st => en st ∨ ∃ x ∈ sc st, gW sc en n false x
  | n + 1, false, st => en st ∨ (sc st ≠ [] ∧ ∀ x ∈ sc st, gW sc en n true x)
theorem gW_mono {sc : Int → List Int} {en : Int → Prop} : ∀ (n : Nat) (f : Bool) (st : Int), gW sc en n f st → gW sc en (n + 1) f st
  | 0, true, st, h => Or.inl h
  | 0, false, st, h => Or.inl h
  | n + 1, true, st, h => by
    rcases h with h | ⟨x, h1, h2⟩
    · exact Or.inl h
    · exact Or.inr ⟨x, h1, gW_mono n false x h2⟩
  | n + 1, false, st, h => by
    rcases h with h | ⟨h1, h2⟩
    · exact Or.inl h
    · exact Or.inr ⟨h1, fun x hx => gW_mono n true x (h2 x hx)⟩
theorem gW_le {sc : Int → List Int} {en : Int → Prop} {f : Bool} {st : Int} {m n : Nat} (h : m ≤ n) (hg : gW sc en m f st) : gW sc en n f st := by
  induction n with
  | zero =>
    rw [show m = 0 by omega] at hg
    exact hg
  | succ n ih =>
    by_cases e : m = n + 1
    · rw [← e]
      exact hg
    · exact gW_mono n f st (ih (by omega))
/-- a number that is exact up to n -/
def exA (f : Int → Int) (P : Nat → Int → Prop) (n : Nat) (st : Int) : Prop := (f st = -1 ∧ ¬ P n st) ∨ ∃ i : Nat, i ≤ n ∧ f st = i ∧ P i st ∧ ∀ i', i' < i → ¬ P i' st
theorem exA_early {f : Int → Int} {P : Nat → Int → Prop} (hP : ∀ m n st, m ≤ n → P m st → P n st) {n m : Nat} {st : Int} (hm : m = n ∨ m = n + 1) (h : exA f P m st) : (f st ≠ -1 ∧ f st < ((n + 1 : Nat) : Int)) ↔ P n st := by
  rcases h with ⟨h1, h2⟩ | ⟨i, i1, i2, i3, i4⟩
  · rw [h1]
    constructor
    · rintro ⟨h, -⟩
      exact absurd rfl h
    · intro h
      exact absurd (hP n m st (by omega) h) h2
  · rw [i2]
    constructor
    · rintro ⟨-, h⟩
      exact hP i n st (by omega) i3
    · intro h
      refine ⟨by omega, ?_⟩
      have : ¬ n < i := fun hh => i4 n hh h
      omega
theorem gW_P {sc : Int → List Int} {en : Int → Prop} {f : Bool} : ∀ m n st, m ≤ n → gW sc en m f st → gW sc en n f st := fun _ _ _ h hg => gW_le h hg
/-- what follows a state -/
def scG (β : Bk) (mk : Int → Int) (st : Int) : List Int := (brL (msN β mk st) 48).map (fun k => nxB β st (k / 8 : Nat) (k % 8 : Nat))
def enG (β : Bk) (tone st : Int) : Prop := enB β st tone = true
theorem scG_in {β : Bk} {mk : Int → Int} {st x : Int} (h : x ∈ scG β mk st) : 0 ≤ x ∧ x < 700 := by
  obtain ⟨k, hk, rfl⟩ := List.mem_map.mp h
  exact brL_nx hk β st
theorem dX1_forcedWithin_0 : decode cX1_forcedWithin 0 = .ok (.aload_n 0, 1) := by decide +kernel
theorem dX1_forcedWithin_1 : decode cX1_forcedWithin 1 = .ok (.getfield 24, 3) := by decide +kernel
theorem dX1_forcedWithin_4 : decode cX1_forcedWithin 4 = .ok (.aload_n 0, 1) := by decide +kernel
theorem dX1_forcedWithin_5 : decode cX1_forcedWithin 5 = .ok (.getfield 28, 3) := by decide +kernel
theorem dX1_forcedWithin_8 : decode cX1_forcedWithin 8 = .ok (.getfield 36, 3) := by decide +kernel
theorem dX1_forcedWithin_11 : decode cX1_forcedWithin 11 = .ok (.if_icmp .ne 29, 3) := by decide +kernel
theorem dX1_forcedWithin_14 : decode cX1_forcedWithin 14 = .ok (.aload_n 0, 1) := by decide +kernel
theorem dX1_forcedWithin_15 : decode cX1_forcedWithin 15 = .ok (.getfield 39, 3) := by decide +kernel
theorem dX1_forcedWithin_18 : decode cX1_forcedWithin 18 = .ok (.iload_n 1, 1) := by decide +kernel
theorem dX1_forcedWithin_19 : decode cX1_forcedWithin 19 = .ok (.if_icmp .ne 21, 3) := by decide +kernel
theorem dX1_forcedWithin_22 : decode cX1_forcedWithin 22 = .ok (.aload_n 0, 1) := by decide +kernel
theorem dX1_forcedWithin_23 : decode cX1_forcedWithin 23 = .ok (.getfield 42, 3) := by decide +kernel
theorem dX1_forcedWithin_26 : decode cX1_forcedWithin 26 = .ok (.iload_n 2, 1) := by decide +kernel
theorem dX1_forcedWithin_27 : decode cX1_forcedWithin 27 = .ok (.if_icmp .ne 13, 3) := by decide +kernel
theorem dX1_forcedWithin_30 : decode cX1_forcedWithin 30 = .ok (.aload_n 0, 1) := by decide +kernel
theorem dX1_forcedWithin_31 : decode cX1_forcedWithin 31 = .ok (.getfield 9, 3) := by decide +kernel
theorem dX1_forcedWithin_34 : decode cX1_forcedWithin 34 = .ok (.aload_n 0, 1) := by decide +kernel
theorem dX1_forcedWithin_35 : decode cX1_forcedWithin 35 = .ok (.getfield 39, 3) := by decide +kernel
theorem dX1_forcedWithin_38 : decode cX1_forcedWithin 38 = .ok (.iaload, 1) := by decide +kernel
theorem dX1_forcedWithin_39 : decode cX1_forcedWithin 39 = .ok (.ireturn, 1) := by decide +kernel
theorem dX1_forcedWithin_40 : decode cX1_forcedWithin 40 = .ok (.aload_n 0, 1) := by decide +kernel
theorem dX1_forcedWithin_41 : decode cX1_forcedWithin 41 = .ok (.aload_n 0, 1) := by decide +kernel
theorem dX1_forcedWithin_42 : decode cX1_forcedWithin 42 = .ok (.getfield 28, 3) := by decide +kernel
theorem dX1_forcedWithin_45 : decode cX1_forcedWithin 45 = .ok (.getfield 36, 3) := by decide +kernel
theorem dX1_forcedWithin_48 : decode cX1_forcedWithin 48 = .ok (.putfield 24, 3) := by decide +kernel
theorem dX1_forcedWithin_51 : decode cX1_forcedWithin 51 = .ok (.aload_n 0, 1) := by decide +kernel
theorem dX1_forcedWithin_52 : decode cX1_forcedWithin 52 = .ok (.iload_n 1, 1) := by decide +kernel
theorem dX1_forcedWithin_53 : decode cX1_forcedWithin 53 = .ok (.putfield 39, 3) := by decide +kernel
theorem dX1_forcedWithin_56 : decode cX1_forcedWithin 56 = .ok (.aload_n 0, 1) := by decide +kernel
theorem dX1_forcedWithin_57 : decode cX1_forcedWithin 57 = .ok (.iload_n 2, 1) := by decide +kernel
theorem dX1_forcedWithin_58 : decode cX1_forcedWithin 58 = .ok (.putfield 42, 3) := by decide +kernel
theorem dX1_forcedWithin_61 : decode cX1_forcedWithin 61 = .ok (.aload_n 0, 1) := by decide +kernel
theorem dX1_forcedWithin_62 : decode cX1_forcedWithin 62 = .ok (.getfield 32, 3) := by decide +kernel
theorem dX1_forcedWithin_65 : decode cX1_forcedWithin 65 = .ok (.aload_n 0, 1) := by decide +kernel
theorem dX1_forcedWithin_66 : decode cX1_forcedWithin 66 = .ok (.getfield 39, 3) := by decide +kernel
theorem dX1_forcedWithin_69 : decode cX1_forcedWithin 69 = .ok (.bipush 10, 2) := by decide +kernel
theorem dX1_forcedWithin_71 : decode cX1_forcedWithin 71 = .ok (.ldc2_w 45, 3) := by decide +kernel
theorem dX1_forcedWithin_74 : decode cX1_forcedWithin 74 = .ok (.bipush 9, 2) := by decide +kernel
theorem dX1_forcedWithin_76 : decode cX1_forcedWithin 76 = .ok (.iconst 0, 1) := by decide +kernel
theorem dX1_forcedWithin_77 : decode cX1_forcedWithin 77 = .ok (.invokevirtual 47, 3) := by decide +kernel
theorem dX1_forcedWithin_80 : decode cX1_forcedWithin 80 = .ok (.pop, 1) := by decide +kernel
theorem dX1_forcedWithin_81 : decode cX1_forcedWithin 81 = .ok (.aload_n 0, 1) := by decide +kernel
theorem dX1_forcedWithin_82 : decode cX1_forcedWithin 82 = .ok (.getfield 18, 3) := by decide +kernel
theorem dX1_forcedWithin_85 : decode cX1_forcedWithin 85 = .ok (.iconst 0, 1) := by decide +kernel
theorem dX1_forcedWithin_86 : decode cX1_forcedWithin 86 = .ok (.invokestatic 53, 3) := by decide +kernel
theorem dX1_forcedWithin_89 : decode cX1_forcedWithin 89 = .ok (.iconst 0, 1) := by decide +kernel
theorem dX1_forcedWithin_90 : decode cX1_forcedWithin 90 = .ok (.istore_n 3, 1) := by decide +kernel
theorem dX1_forcedWithin_91 : decode cX1_forcedWithin 91 = .ok (.iload_n 3, 1) := by decide +kernel
theorem dX1_forcedWithin_92 : decode cX1_forcedWithin 92 = .ok (.aload_n 0, 1) := by decide +kernel
theorem dX1_forcedWithin_93 : decode cX1_forcedWithin 93 = .ok (.getfield 32, 3) := by decide +kernel
theorem dX1_forcedWithin_96 : decode cX1_forcedWithin 96 = .ok (.getfield 59, 3) := by decide +kernel
theorem dX1_forcedWithin_99 : decode cX1_forcedWithin 99 = .ok (.if_icmp .ge 91, 3) := by decide +kernel
theorem dX1_forcedWithin_102 : decode cX1_forcedWithin 102 = .ok (.aload_n 0, 1) := by decide +kernel
theorem dX1_forcedWithin_103 : decode cX1_forcedWithin 103 = .ok (.getfield 32, 3) := by decide +kernel
theorem dX1_forcedWithin_106 : decode cX1_forcedWithin 106 = .ok (.iload_n 3, 1) := by decide +kernel
theorem dX1_forcedWithin_107 : decode cX1_forcedWithin 107 = .ok (.invokevirtual 62, 3) := by decide +kernel
theorem dX1_forcedWithin_110 : decode cX1_forcedWithin 110 = .ok (.istore 4, 2) := by decide +kernel
theorem dX1_forcedWithin_112 : decode cX1_forcedWithin 112 = .ok (.aload_n 0, 1) := by decide +kernel
theorem dX1_forcedWithin_113 : decode cX1_forcedWithin 113 = .ok (.getfield 28, 3) := by decide +kernel
theorem dX1_forcedWithin_116 : decode cX1_forcedWithin 116 = .ok (.iload 4, 2) := by decide +kernel
theorem dX1_forcedWithin_118 : decode cX1_forcedWithin 118 = .ok (.aload_n 0, 1) := by decide +kernel
theorem dX1_forcedWithin_119 : decode cX1_forcedWithin 119 = .ok (.getfield 42, 3) := by decide +kernel
theorem dX1_forcedWithin_122 : decode cX1_forcedWithin 122 = .ok (.invokevirtual 66, 3) := by decide +kernel
theorem dX1_forcedWithin_125 : decode cX1_forcedWithin 125 = .ok (.istore 5, 2) := by decide +kernel
theorem dX1_forcedWithin_127 : decode cX1_forcedWithin 127 = .ok (.aload_n 0, 1) := by decide +kernel
theorem dX1_forcedWithin_128 : decode cX1_forcedWithin 128 = .ok (.getfield 9, 3) := by decide +kernel
theorem dX1_forcedWithin_131 : decode cX1_forcedWithin 131 = .ok (.iload 4, 2) := by decide +kernel
theorem dX1_forcedWithin_133 : decode cX1_forcedWithin 133 = .ok (.iload 5, 2) := by decide +kernel
theorem dX1_forcedWithin_135 : decode cX1_forcedWithin 135 = .ok (.ifCond .eq 7, 3) := by decide +kernel
theorem dX1_forcedWithin_138 : decode cX1_forcedWithin 138 = .ok (.iconst 0, 1) := by decide +kernel
theorem dX1_forcedWithin_139 : decode cX1_forcedWithin 139 = .ok (.goto 4, 3) := by decide +kernel
theorem dX1_forcedWithin_142 : decode cX1_forcedWithin 142 = .ok (.iconst (-1), 1) := by decide +kernel
theorem dX1_forcedWithin_143 : decode cX1_forcedWithin 143 = .ok (.iastore, 1) := by decide +kernel
theorem dX1_forcedWithin_144 : decode cX1_forcedWithin 144 = .ok (.aload_n 0, 1) := by decide +kernel
theorem dX1_forcedWithin_145 : decode cX1_forcedWithin 145 = .ok (.getfield 15, 3) := by decide +kernel
theorem dX1_forcedWithin_148 : decode cX1_forcedWithin 148 = .ok (.iload 4, 2) := by decide +kernel
theorem dX1_forcedWithin_150 : decode cX1_forcedWithin 150 = .ok (.iload 5, 2) := by decide +kernel
theorem dX1_forcedWithin_152 : decode cX1_forcedWithin 152 = .ok (.ifCond .eq 7, 3) := by decide +kernel
theorem dX1_forcedWithin_155 : decode cX1_forcedWithin 155 = .ok (.iconst 0, 1) := by decide +kernel
theorem dX1_forcedWithin_156 : decode cX1_forcedWithin 156 = .ok (.goto 4, 3) := by decide +kernel
theorem dX1_forcedWithin_159 : decode cX1_forcedWithin 159 = .ok (.iconst (-1), 1) := by decide +kernel
theorem dX1_forcedWithin_160 : decode cX1_forcedWithin 160 = .ok (.iastore, 1) := by decide +kernel
theorem dX1_forcedWithin_161 : decode cX1_forcedWithin 161 = .ok (.aload_n 0, 1) := by decide +kernel
theorem dX1_forcedWithin_162 : decode cX1_forcedWithin 162 = .ok (.getfield 18, 3) := by decide +kernel
theorem dX1_forcedWithin_165 : decode cX1_forcedWithin 165 = .ok (.iload 4, 2) := by decide +kernel
theorem dX1_forcedWithin_167 : decode cX1_forcedWithin 167 = .ok (.bipush 7, 2) := by decide +kernel
theorem dX1_forcedWithin_169 : decode cX1_forcedWithin 169 = .ok (.idiv, 1) := by decide +kernel
theorem dX1_forcedWithin_170 : decode cX1_forcedWithin 170 = .ok (.dup2, 1) := by decide +kernel
theorem dX1_forcedWithin_171 : decode cX1_forcedWithin 171 = .ok (.iaload, 1) := by decide +kernel
theorem dX1_forcedWithin_172 : decode cX1_forcedWithin 172 = .ok (.iload 5, 2) := by decide +kernel
theorem dX1_forcedWithin_174 : decode cX1_forcedWithin 174 = .ok (.ifCond .eq 7, 3) := by decide +kernel
theorem dX1_forcedWithin_177 : decode cX1_forcedWithin 177 = .ok (.iconst 1, 1) := by decide +kernel
theorem dX1_forcedWithin_178 : decode cX1_forcedWithin 178 = .ok (.goto 4, 3) := by decide +kernel
theorem dX1_forcedWithin_181 : decode cX1_forcedWithin 181 = .ok (.iconst 0, 1) := by decide +kernel
theorem dX1_forcedWithin_182 : decode cX1_forcedWithin 182 = .ok (.ior, 1) := by decide +kernel
theorem dX1_forcedWithin_183 : decode cX1_forcedWithin 183 = .ok (.iastore, 1) := by decide +kernel
theorem dX1_forcedWithin_184 : decode cX1_forcedWithin 184 = .ok (.iinc 3 1, 3) := by decide +kernel
theorem dX1_forcedWithin_187 : decode cX1_forcedWithin 187 = .ok (.goto (-96), 3) := by decide +kernel
theorem dX1_forcedWithin_190 : decode cX1_forcedWithin 190 = .ok (.iconst 1, 1) := by decide +kernel
theorem dX1_forcedWithin_191 : decode cX1_forcedWithin 191 = .ok (.istore_n 3, 1) := by decide +kernel
theorem dX1_forcedWithin_192 : decode cX1_forcedWithin 192 = .ok (.iconst 1, 1) := by decide +kernel
theorem dX1_forcedWithin_193 : decode cX1_forcedWithin 193 = .ok (.istore 4, 2) := by decide +kernel
theorem dX1_forcedWithin_195 : decode cX1_forcedWithin 195 = .ok (.iload 4, 2) := by decide +kernel
theorem dX1_forcedWithin_197 : decode cX1_forcedWithin 197 = .ok (.sipush 1400, 3) := by decide +kernel
theorem dX1_forcedWithin_200 : decode cX1_forcedWithin 200 = .ok (.if_icmp .gt 37, 3) := by decide +kernel
theorem dX1_forcedWithin_203 : decode cX1_forcedWithin 203 = .ok (.iload_n 3, 1) := by decide +kernel
theorem dX1_forcedWithin_204 : decode cX1_forcedWithin 204 = .ok (.ifCond .eq 33, 3) := by decide +kernel
theorem dX1_forcedWithin_207 : decode cX1_forcedWithin 207 = .ok (.aload_n 0, 1) := by decide +kernel
theorem dX1_forcedWithin_208 : decode cX1_forcedWithin 208 = .ok (.getfield 9, 3) := by decide +kernel
theorem dX1_forcedWithin_211 : decode cX1_forcedWithin 211 = .ok (.aload_n 0, 1) := by decide +kernel
theorem dX1_forcedWithin_212 : decode cX1_forcedWithin 212 = .ok (.getfield 39, 3) := by decide +kernel
theorem dX1_forcedWithin_215 : decode cX1_forcedWithin 215 = .ok (.iaload, 1) := by decide +kernel
theorem dX1_forcedWithin_216 : decode cX1_forcedWithin 216 = .ok (.iconst (-1), 1) := by decide +kernel
theorem dX1_forcedWithin_217 : decode cX1_forcedWithin 217 = .ok (.if_icmp .ne 20, 3) := by decide +kernel
theorem dX1_forcedWithin_220 : decode cX1_forcedWithin 220 = .ok (.aload_n 0, 1) := by decide +kernel
theorem dX1_forcedWithin_221 : decode cX1_forcedWithin 221 = .ok (.invokevirtual 70, 3) := by decide +kernel
theorem dX1_forcedWithin_224 : decode cX1_forcedWithin 224 = .ok (.aload_n 0, 1) := by decide +kernel
theorem dX1_forcedWithin_225 : decode cX1_forcedWithin 225 = .ok (.iload 4, 2) := by decide +kernel
theorem dX1_forcedWithin_227 : decode cX1_forcedWithin 227 = .ok (.invokevirtual 73, 3) := by decide +kernel
theorem dX1_forcedWithin_230 : decode cX1_forcedWithin 230 = .ok (.istore_n 3, 1) := by decide +kernel
theorem dX1_forcedWithin_231 : decode cX1_forcedWithin 231 = .ok (.iinc 4 1, 3) := by decide +kernel
theorem dX1_forcedWithin_234 : decode cX1_forcedWithin 234 = .ok (.goto (-39), 3) := by decide +kernel
theorem dX1_forcedWithin_237 : decode cX1_forcedWithin 237 = .ok (.aload_n 0, 1) := by decide +kernel
theorem dX1_forcedWithin_238 : decode cX1_forcedWithin 238 = .ok (.getfield 9, 3) := by decide +kernel
theorem dX1_forcedWithin_241 : decode cX1_forcedWithin 241 = .ok (.aload_n 0, 1) := by decide +kernel
theorem dX1_forcedWithin_242 : decode cX1_forcedWithin 242 = .ok (.getfield 39, 3) := by decide +kernel
theorem dX1_forcedWithin_245 : decode cX1_forcedWithin 245 = .ok (.iaload, 1) := by decide +kernel
theorem dX1_forcedWithin_246 : decode cX1_forcedWithin 246 = .ok (.ireturn, 1) := by decide +kernel
theorem dX1_turnToFresh_0 : decode cX1_turnToFresh 0 = .ok (.iconst 0, 1) := by decide +kernel
theorem dX1_turnToFresh_1 : decode cX1_turnToFresh 1 = .ok (.istore_n 1, 1) := by decide +kernel
theorem dX1_turnToFresh_2 : decode cX1_turnToFresh 2 = .ok (.iload_n 1, 1) := by decide +kernel
theorem dX1_turnToFresh_3 : decode cX1_turnToFresh 3 = .ok (.bipush 100, 2) := by decide +kernel
theorem dX1_turnToFresh_5 : decode cX1_turnToFresh 5 = .ok (.if_icmp .ge 69, 3) := by decide +kernel
theorem dX1_turnToFresh_8 : decode cX1_turnToFresh 8 = .ok (.aload_n 0, 1) := by decide +kernel
theorem dX1_turnToFresh_9 : decode cX1_turnToFresh 9 = .ok (.getfield 21, 3) := by decide +kernel
theorem dX1_turnToFresh_12 : decode cX1_turnToFresh 12 = .ok (.iload_n 1, 1) := by decide +kernel
theorem dX1_turnToFresh_13 : decode cX1_turnToFresh 13 = .ok (.iconst 0, 1) := by decide +kernel
theorem dX1_turnToFresh_14 : decode cX1_turnToFresh 14 = .ok (.iastore, 1) := by decide +kernel
theorem dX1_turnToFresh_15 : decode cX1_turnToFresh 15 = .ok (.iconst 0, 1) := by decide +kernel
theorem dX1_turnToFresh_16 : decode cX1_turnToFresh 16 = .ok (.istore_n 2, 1) := by decide +kernel
theorem dX1_turnToFresh_17 : decode cX1_turnToFresh 17 = .ok (.iload_n 2, 1) := by decide +kernel
theorem dX1_turnToFresh_18 : decode cX1_turnToFresh 18 = .ok (.aload_n 0, 1) := by decide +kernel
theorem dX1_turnToFresh_19 : decode cX1_turnToFresh 19 = .ok (.getfield 28, 3) := by decide +kernel
theorem dX1_turnToFresh_22 : decode cX1_turnToFresh 22 = .ok (.getfield 77, 3) := by decide +kernel
theorem dX1_turnToFresh_25 : decode cX1_turnToFresh 25 = .ok (.getfield 81, 3) := by decide +kernel
theorem dX1_turnToFresh_28 : decode cX1_turnToFresh 28 = .ok (.if_icmp .ge 40, 3) := by decide +kernel
theorem dX1_turnToFresh_31 : decode cX1_turnToFresh 31 = .ok (.aload_n 0, 1) := by decide +kernel
theorem dX1_turnToFresh_32 : decode cX1_turnToFresh 32 = .ok (.getfield 21, 3) := by decide +kernel
theorem dX1_turnToFresh_35 : decode cX1_turnToFresh 35 = .ok (.iload_n 1, 1) := by decide +kernel
theorem dX1_turnToFresh_36 : decode cX1_turnToFresh 36 = .ok (.dup2, 1) := by decide +kernel
theorem dX1_turnToFresh_37 : decode cX1_turnToFresh 37 = .ok (.iaload, 1) := by decide +kernel
theorem dX1_turnToFresh_38 : decode cX1_turnToFresh 38 = .ok (.aload_n 0, 1) := by decide +kernel
theorem dX1_turnToFresh_39 : decode cX1_turnToFresh 39 = .ok (.getfield 18, 3) := by decide +kernel
theorem dX1_turnToFresh_42 : decode cX1_turnToFresh 42 = .ok (.aload_n 0, 1) := by decide +kernel
theorem dX1_turnToFresh_43 : decode cX1_turnToFresh 43 = .ok (.getfield 28, 3) := by decide +kernel
theorem dX1_turnToFresh_46 : decode cX1_turnToFresh 46 = .ok (.getfield 86, 3) := by decide +kernel
theorem dX1_turnToFresh_49 : decode cX1_turnToFresh 49 = .ok (.iload_n 2, 1) := by decide +kernel
theorem dX1_turnToFresh_50 : decode cX1_turnToFresh 50 = .ok (.bipush 100, 2) := by decide +kernel
theorem dX1_turnToFresh_52 : decode cX1_turnToFresh 52 = .ok (.imul, 1) := by decide +kernel
theorem dX1_turnToFresh_53 : decode cX1_turnToFresh 53 = .ok (.iload_n 1, 1) := by decide +kernel
theorem dX1_turnToFresh_54 : decode cX1_turnToFresh 54 = .ok (.iadd, 1) := by decide +kernel
theorem dX1_turnToFresh_55 : decode cX1_turnToFresh 55 = .ok (.iaload, 1) := by decide +kernel
theorem dX1_turnToFresh_56 : decode cX1_turnToFresh 56 = .ok (.bipush 7, 2) := by decide +kernel
theorem dX1_turnToFresh_58 : decode cX1_turnToFresh 58 = .ok (.idiv, 1) := by decide +kernel
theorem dX1_turnToFresh_59 : decode cX1_turnToFresh 59 = .ok (.iaload, 1) := by decide +kernel
theorem dX1_turnToFresh_60 : decode cX1_turnToFresh 60 = .ok (.ior, 1) := by decide +kernel
theorem dX1_turnToFresh_61 : decode cX1_turnToFresh 61 = .ok (.iastore, 1) := by decide +kernel
theorem dX1_turnToFresh_62 : decode cX1_turnToFresh 62 = .ok (.iinc 2 1, 3) := by decide +kernel
theorem dX1_turnToFresh_65 : decode cX1_turnToFresh 65 = .ok (.goto (-48), 3) := by decide +kernel
theorem dX1_turnToFresh_68 : decode cX1_turnToFresh 68 = .ok (.iinc 1 1, 3) := by decide +kernel
theorem dX1_turnToFresh_71 : decode cX1_turnToFresh 71 = .ok (.goto (-69), 3) := by decide +kernel
theorem dX1_turnToFresh_74 : decode cX1_turnToFresh 74 = .ok (.aload_n 0, 1) := by decide +kernel
theorem dX1_turnToFresh_75 : decode cX1_turnToFresh 75 = .ok (.getfield 18, 3) := by decide +kernel
theorem dX1_turnToFresh_78 : decode cX1_turnToFresh 78 = .ok (.iconst 0, 1) := by decide +kernel
theorem dX1_turnToFresh_79 : decode cX1_turnToFresh 79 = .ok (.invokestatic 53, 3) := by decide +kernel
theorem dX1_turnToFresh_82 : decode cX1_turnToFresh 82 = .ok (.return_, 1) := by decide +kernel
theorem dX1_settleWithin_0 : decode cX1_settleWithin 0 = .ok (.iconst 0, 1) := by decide +kernel
theorem dX1_settleWithin_1 : decode cX1_settleWithin 1 = .ok (.istore_n 2, 1) := by decide +kernel
theorem dX1_settleWithin_2 : decode cX1_settleWithin 2 = .ok (.iconst 0, 1) := by decide +kernel
theorem dX1_settleWithin_3 : decode cX1_settleWithin 3 = .ok (.istore_n 3, 1) := by decide +kernel
theorem dX1_settleWithin_4 : decode cX1_settleWithin 4 = .ok (.iload_n 3, 1) := by decide +kernel
theorem dX1_settleWithin_5 : decode cX1_settleWithin 5 = .ok (.aload_n 0, 1) := by decide +kernel
theorem dX1_settleWithin_6 : decode cX1_settleWithin 6 = .ok (.getfield 32, 3) := by decide +kernel
theorem dX1_settleWithin_9 : decode cX1_settleWithin 9 = .ok (.getfield 59, 3) := by decide +kernel
theorem dX1_settleWithin_12 : decode cX1_settleWithin 12 = .ok (.if_icmp .ge 125, 3) := by decide +kernel
theorem dX1_settleWithin_15 : decode cX1_settleWithin 15 = .ok (.aload_n 0, 1) := by decide +kernel
theorem dX1_settleWithin_16 : decode cX1_settleWithin 16 = .ok (.getfield 32, 3) := by decide +kernel
theorem dX1_settleWithin_19 : decode cX1_settleWithin 19 = .ok (.iload_n 3, 1) := by decide +kernel
theorem dX1_settleWithin_20 : decode cX1_settleWithin 20 = .ok (.invokevirtual 62, 3) := by decide +kernel
theorem dX1_settleWithin_23 : decode cX1_settleWithin 23 = .ok (.istore 4, 2) := by decide +kernel
theorem dX1_settleWithin_25 : decode cX1_settleWithin 25 = .ok (.iload 4, 2) := by decide +kernel
theorem dX1_settleWithin_27 : decode cX1_settleWithin 27 = .ok (.bipush 7, 2) := by decide +kernel
theorem dX1_settleWithin_29 : decode cX1_settleWithin 29 = .ok (.idiv, 1) := by decide +kernel
theorem dX1_settleWithin_30 : decode cX1_settleWithin 30 = .ok (.istore 5, 2) := by decide +kernel
theorem dX1_settleWithin_32 : decode cX1_settleWithin 32 = .ok (.aload_n 0, 1) := by decide +kernel
theorem dX1_settleWithin_33 : decode cX1_settleWithin 33 = .ok (.getfield 21, 3) := by decide +kernel
theorem dX1_settleWithin_36 : decode cX1_settleWithin 36 = .ok (.iload 5, 2) := by decide +kernel
theorem dX1_settleWithin_38 : decode cX1_settleWithin 38 = .ok (.iaload, 1) := by decide +kernel
theorem dX1_settleWithin_39 : decode cX1_settleWithin 39 = .ok (.ifCond .eq 43, 3) := by decide +kernel
theorem dX1_settleWithin_42 : decode cX1_settleWithin 42 = .ok (.aload_n 0, 1) := by decide +kernel
theorem dX1_settleWithin_43 : decode cX1_settleWithin 43 = .ok (.getfield 9, 3) := by decide +kernel
theorem dX1_settleWithin_46 : decode cX1_settleWithin 46 = .ok (.iload 4, 2) := by decide +kernel
theorem dX1_settleWithin_48 : decode cX1_settleWithin 48 = .ok (.iaload, 1) := by decide +kernel
theorem dX1_settleWithin_49 : decode cX1_settleWithin 49 = .ok (.iconst (-1), 1) := by decide +kernel
theorem dX1_settleWithin_50 : decode cX1_settleWithin 50 = .ok (.if_icmp .ne 32, 3) := by decide +kernel
theorem dX1_settleWithin_53 : decode cX1_settleWithin 53 = .ok (.aload_n 0, 1) := by decide +kernel
theorem dX1_settleWithin_54 : decode cX1_settleWithin 54 = .ok (.iload 4, 2) := by decide +kernel
theorem dX1_settleWithin_56 : decode cX1_settleWithin 56 = .ok (.iload_n 1, 1) := by decide +kernel
theorem dX1_settleWithin_57 : decode cX1_settleWithin 57 = .ok (.invokevirtual 89, 3) := by decide +kernel
theorem dX1_settleWithin_60 : decode cX1_settleWithin 60 = .ok (.iconst (-1), 1) := by decide +kernel
theorem dX1_settleWithin_61 : decode cX1_settleWithin 61 = .ok (.if_icmp .eq 21, 3) := by decide +kernel
theorem dX1_settleWithin_64 : decode cX1_settleWithin 64 = .ok (.aload_n 0, 1) := by decide +kernel
theorem dX1_settleWithin_65 : decode cX1_settleWithin 65 = .ok (.getfield 9, 3) := by decide +kernel
theorem dX1_settleWithin_68 : decode cX1_settleWithin 68 = .ok (.iload 4, 2) := by decide +kernel
theorem dX1_settleWithin_70 : decode cX1_settleWithin 70 = .ok (.iload_n 1, 1) := by decide +kernel
theorem dX1_settleWithin_71 : decode cX1_settleWithin 71 = .ok (.iastore, 1) := by decide +kernel
theorem dX1_settleWithin_72 : decode cX1_settleWithin 72 = .ok (.aload_n 0, 1) := by decide +kernel
theorem dX1_settleWithin_73 : decode cX1_settleWithin 73 = .ok (.getfield 18, 3) := by decide +kernel
theorem dX1_settleWithin_76 : decode cX1_settleWithin 76 = .ok (.iload 5, 2) := by decide +kernel
theorem dX1_settleWithin_78 : decode cX1_settleWithin 78 = .ok (.iconst 1, 1) := by decide +kernel
theorem dX1_settleWithin_79 : decode cX1_settleWithin 79 = .ok (.iastore, 1) := by decide +kernel
theorem dX1_settleWithin_80 : decode cX1_settleWithin 80 = .ok (.iconst 1, 1) := by decide +kernel
theorem dX1_settleWithin_81 : decode cX1_settleWithin 81 = .ok (.istore_n 2, 1) := by decide +kernel
theorem dX1_settleWithin_82 : decode cX1_settleWithin 82 = .ok (.aload_n 0, 1) := by decide +kernel
theorem dX1_settleWithin_83 : decode cX1_settleWithin 83 = .ok (.getfield 21, 3) := by decide +kernel
theorem dX1_settleWithin_86 : decode cX1_settleWithin 86 = .ok (.iload 5, 2) := by decide +kernel
theorem dX1_settleWithin_88 : decode cX1_settleWithin 88 = .ok (.iaload, 1) := by decide +kernel
theorem dX1_settleWithin_89 : decode cX1_settleWithin 89 = .ok (.ifCond .eq 42, 3) := by decide +kernel
theorem dX1_settleWithin_92 : decode cX1_settleWithin 92 = .ok (.aload_n 0, 1) := by decide +kernel
theorem dX1_settleWithin_93 : decode cX1_settleWithin 93 = .ok (.getfield 15, 3) := by decide +kernel
theorem dX1_settleWithin_96 : decode cX1_settleWithin 96 = .ok (.iload 4, 2) := by decide +kernel
theorem dX1_settleWithin_98 : decode cX1_settleWithin 98 = .ok (.iaload, 1) := by decide +kernel
theorem dX1_settleWithin_99 : decode cX1_settleWithin 99 = .ok (.iconst (-1), 1) := by decide +kernel
theorem dX1_settleWithin_100 : decode cX1_settleWithin 100 = .ok (.if_icmp .ne 31, 3) := by decide +kernel
theorem dX1_settleWithin_103 : decode cX1_settleWithin 103 = .ok (.aload_n 0, 1) := by decide +kernel
theorem dX1_settleWithin_104 : decode cX1_settleWithin 104 = .ok (.iload 4, 2) := by decide +kernel
theorem dX1_settleWithin_106 : decode cX1_settleWithin 106 = .ok (.iload_n 1, 1) := by decide +kernel
theorem dX1_settleWithin_107 : decode cX1_settleWithin 107 = .ok (.invokevirtual 93, 3) := by decide +kernel
theorem dX1_settleWithin_110 : decode cX1_settleWithin 110 = .ok (.ifCond .eq 21, 3) := by decide +kernel
theorem dX1_settleWithin_113 : decode cX1_settleWithin 113 = .ok (.aload_n 0, 1) := by decide +kernel
theorem dX1_settleWithin_114 : decode cX1_settleWithin 114 = .ok (.getfield 15, 3) := by decide +kernel
theorem dX1_settleWithin_117 : decode cX1_settleWithin 117 = .ok (.iload 4, 2) := by decide +kernel
theorem dX1_settleWithin_119 : decode cX1_settleWithin 119 = .ok (.iload_n 1, 1) := by decide +kernel
theorem dX1_settleWithin_120 : decode cX1_settleWithin 120 = .ok (.iastore, 1) := by decide +kernel
theorem dX1_settleWithin_121 : decode cX1_settleWithin 121 = .ok (.aload_n 0, 1) := by decide +kernel
theorem dX1_settleWithin_122 : decode cX1_settleWithin 122 = .ok (.getfield 18, 3) := by decide +kernel
theorem dX1_settleWithin_125 : decode cX1_settleWithin 125 = .ok (.iload 5, 2) := by decide +kernel
theorem dX1_settleWithin_127 : decode cX1_settleWithin 127 = .ok (.iconst 1, 1) := by decide +kernel
theorem dX1_settleWithin_128 : decode cX1_settleWithin 128 = .ok (.iastore, 1) := by decide +kernel
theorem dX1_settleWithin_129 : decode cX1_settleWithin 129 = .ok (.iconst 1, 1) := by decide +kernel
theorem dX1_settleWithin_130 : decode cX1_settleWithin 130 = .ok (.istore_n 2, 1) := by decide +kernel
theorem dX1_settleWithin_131 : decode cX1_settleWithin 131 = .ok (.iinc 3 1, 3) := by decide +kernel
theorem dX1_settleWithin_134 : decode cX1_settleWithin 134 = .ok (.goto (-130), 3) := by decide +kernel
theorem dX1_settleWithin_137 : decode cX1_settleWithin 137 = .ok (.iload_n 2, 1) := by decide +kernel
theorem dX1_settleWithin_138 : decode cX1_settleWithin 138 = .ok (.ireturn, 1) := by decide +kernel
theorem dX1_firstForcing_0 : decode cX1_firstForcing 0 = .ok (.aload_n 0, 1) := by decide +kernel
theorem dX1_firstForcing_1 : decode cX1_firstForcing 1 = .ok (.getfield 28, 3) := by decide +kernel
theorem dX1_firstForcing_4 : decode cX1_firstForcing 4 = .ok (.iload_n 1, 1) := by decide +kernel
theorem dX1_firstForcing_5 : decode cX1_firstForcing 5 = .ok (.aload_n 0, 1) := by decide +kernel
theorem dX1_firstForcing_6 : decode cX1_firstForcing 6 = .ok (.getfield 28, 3) := by decide +kernel
theorem dX1_firstForcing_9 : decode cX1_firstForcing 9 = .ok (.iload_n 1, 1) := by decide +kernel
theorem dX1_firstForcing_10 : decode cX1_firstForcing 10 = .ok (.invokevirtual 96, 3) := by decide +kernel
theorem dX1_firstForcing_13 : decode cX1_firstForcing 13 = .ok (.invokevirtual 100, 3) := by decide +kernel
theorem dX1_firstForcing_16 : decode cX1_firstForcing 16 = .ok (.istore_n 3, 1) := by decide +kernel
theorem dX1_firstForcing_17 : decode cX1_firstForcing 17 = .ok (.iconst 0, 1) := by decide +kernel
theorem dX1_firstForcing_18 : decode cX1_firstForcing 18 = .ok (.istore 4, 2) := by decide +kernel
theorem dX1_firstForcing_20 : decode cX1_firstForcing 20 = .ok (.iload 4, 2) := by decide +kernel
theorem dX1_firstForcing_22 : decode cX1_firstForcing 22 = .ok (.iload_n 3, 1) := by decide +kernel
theorem dX1_firstForcing_23 : decode cX1_firstForcing 23 = .ok (.if_icmp .ge 42, 3) := by decide +kernel
theorem dX1_firstForcing_26 : decode cX1_firstForcing 26 = .ok (.aload_n 0, 1) := by decide +kernel
theorem dX1_firstForcing_27 : decode cX1_firstForcing 27 = .ok (.getfield 15, 3) := by decide +kernel
theorem dX1_firstForcing_30 : decode cX1_firstForcing 30 = .ok (.aload_n 0, 1) := by decide +kernel
theorem dX1_firstForcing_31 : decode cX1_firstForcing 31 = .ok (.getfield 28, 3) := by decide +kernel
theorem dX1_firstForcing_34 : decode cX1_firstForcing 34 = .ok (.getfield 104, 3) := by decide +kernel
theorem dX1_firstForcing_37 : decode cX1_firstForcing 37 = .ok (.iload 4, 2) := by decide +kernel
theorem dX1_firstForcing_39 : decode cX1_firstForcing 39 = .ok (.iaload, 1) := by decide +kernel
theorem dX1_firstForcing_40 : decode cX1_firstForcing 40 = .ok (.iaload, 1) := by decide +kernel
theorem dX1_firstForcing_41 : decode cX1_firstForcing 41 = .ok (.iload_n 2, 1) := by decide +kernel
theorem dX1_firstForcing_42 : decode cX1_firstForcing 42 = .ok (.invokestatic 107, 3) := by decide +kernel
theorem dX1_firstForcing_45 : decode cX1_firstForcing 45 = .ok (.ifCond .eq 14, 3) := by decide +kernel
theorem dX1_firstForcing_48 : decode cX1_firstForcing 48 = .ok (.aload_n 0, 1) := by decide +kernel
theorem dX1_firstForcing_49 : decode cX1_firstForcing 49 = .ok (.getfield 28, 3) := by decide +kernel
theorem dX1_firstForcing_52 : decode cX1_firstForcing 52 = .ok (.getfield 110, 3) := by decide +kernel
theorem dX1_firstForcing_55 : decode cX1_firstForcing 55 = .ok (.iload 4, 2) := by decide +kernel
theorem dX1_firstForcing_57 : decode cX1_firstForcing 57 = .ok (.iaload, 1) := by decide +kernel
theorem dX1_firstForcing_58 : decode cX1_firstForcing 58 = .ok (.ireturn, 1) := by decide +kernel
theorem dX1_firstForcing_59 : decode cX1_firstForcing 59 = .ok (.iinc 4 1, 3) := by decide +kernel
theorem dX1_firstForcing_62 : decode cX1_firstForcing 62 = .ok (.goto (-42), 3) := by decide +kernel
theorem dX1_firstForcing_65 : decode cX1_firstForcing 65 = .ok (.iconst (-1), 1) := by decide +kernel
theorem dX1_firstForcing_66 : decode cX1_firstForcing 66 = .ok (.ireturn, 1) := by decide +kernel
theorem dX1_allForce_0 : decode cX1_allForce 0 = .ok (.aload_n 0, 1) := by decide +kernel
theorem dX1_allForce_1 : decode cX1_allForce 1 = .ok (.getfield 28, 3) := by decide +kernel
theorem dX1_allForce_4 : decode cX1_allForce 4 = .ok (.iload_n 1, 1) := by decide +kernel
theorem dX1_allForce_5 : decode cX1_allForce 5 = .ok (.aload_n 0, 1) := by decide +kernel
theorem dX1_allForce_6 : decode cX1_allForce 6 = .ok (.getfield 28, 3) := by decide +kernel
theorem dX1_allForce_9 : decode cX1_allForce 9 = .ok (.iload_n 1, 1) := by decide +kernel
theorem dX1_allForce_10 : decode cX1_allForce 10 = .ok (.invokevirtual 96, 3) := by decide +kernel
theorem dX1_allForce_13 : decode cX1_allForce 13 = .ok (.invokevirtual 100, 3) := by decide +kernel
theorem dX1_allForce_16 : decode cX1_allForce 16 = .ok (.istore_n 3, 1) := by decide +kernel
theorem dX1_allForce_17 : decode cX1_allForce 17 = .ok (.iconst 0, 1) := by decide +kernel
theorem dX1_allForce_18 : decode cX1_allForce 18 = .ok (.istore 4, 2) := by decide +kernel
theorem dX1_allForce_20 : decode cX1_allForce 20 = .ok (.iload 4, 2) := by decide +kernel
theorem dX1_allForce_22 : decode cX1_allForce 22 = .ok (.iload_n 3, 1) := by decide +kernel
theorem dX1_allForce_23 : decode cX1_allForce 23 = .ok (.if_icmp .ge 33, 3) := by decide +kernel
theorem dX1_allForce_26 : decode cX1_allForce 26 = .ok (.aload_n 0, 1) := by decide +kernel
theorem dX1_allForce_27 : decode cX1_allForce 27 = .ok (.getfield 9, 3) := by decide +kernel
theorem dX1_allForce_30 : decode cX1_allForce 30 = .ok (.aload_n 0, 1) := by decide +kernel
theorem dX1_allForce_31 : decode cX1_allForce 31 = .ok (.getfield 28, 3) := by decide +kernel
theorem dX1_allForce_34 : decode cX1_allForce 34 = .ok (.getfield 104, 3) := by decide +kernel
theorem dX1_allForce_37 : decode cX1_allForce 37 = .ok (.iload 4, 2) := by decide +kernel
theorem dX1_allForce_39 : decode cX1_allForce 39 = .ok (.iaload, 1) := by decide +kernel
theorem dX1_allForce_40 : decode cX1_allForce 40 = .ok (.iaload, 1) := by decide +kernel
theorem dX1_allForce_41 : decode cX1_allForce 41 = .ok (.iload_n 2, 1) := by decide +kernel
theorem dX1_allForce_42 : decode cX1_allForce 42 = .ok (.invokestatic 107, 3) := by decide +kernel
theorem dX1_allForce_45 : decode cX1_allForce 45 = .ok (.ifCond .ne 5, 3) := by decide +kernel
theorem dX1_allForce_48 : decode cX1_allForce 48 = .ok (.iconst 0, 1) := by decide +kernel
theorem dX1_allForce_49 : decode cX1_allForce 49 = .ok (.ireturn, 1) := by decide +kernel
theorem dX1_allForce_50 : decode cX1_allForce 50 = .ok (.iinc 4 1, 3) := by decide +kernel
theorem dX1_allForce_53 : decode cX1_allForce 53 = .ok (.goto (-33), 3) := by decide +kernel
theorem dX1_allForce_56 : decode cX1_allForce 56 = .ok (.iload_n 3, 1) := by decide +kernel
theorem dX1_allForce_57 : decode cX1_allForce 57 = .ok (.ifCond .le 7, 3) := by decide +kernel
theorem dX1_allForce_60 : decode cX1_allForce 60 = .ok (.iconst 1, 1) := by decide +kernel
theorem dX1_allForce_61 : decode cX1_allForce 61 = .ok (.goto 4, 3) := by decide +kernel
theorem dX1_allForce_64 : decode cX1_allForce 64 = .ok (.iconst 0, 1) := by decide +kernel
theorem dX1_allForce_65 : decode cX1_allForce 65 = .ok (.ireturn, 1) := by decide +kernel
theorem dX1_isEarlier_0 : decode cX1_isEarlier 0 = .ok (.iload_n 0, 1) := by decide +kernel
theorem dX1_isEarlier_1 : decode cX1_isEarlier 1 = .ok (.iconst (-1), 1) := by decide +kernel
theorem dX1_isEarlier_2 : decode cX1_isEarlier 2 = .ok (.if_icmp .eq 12, 3) := by decide +kernel
theorem dX1_isEarlier_5 : decode cX1_isEarlier 5 = .ok (.iload_n 0, 1) := by decide +kernel
theorem dX1_isEarlier_6 : decode cX1_isEarlier 6 = .ok (.iload_n 1, 1) := by decide +kernel
theorem dX1_isEarlier_7 : decode cX1_isEarlier 7 = .ok (.if_icmp .ge 7, 3) := by decide +kernel
theorem dX1_isEarlier_10 : decode cX1_isEarlier 10 = .ok (.iconst 1, 1) := by decide +kernel
theorem dX1_isEarlier_11 : decode cX1_isEarlier 11 = .ok (.goto 4, 3) := by decide +kernel
theorem dX1_isEarlier_14 : decode cX1_isEarlier 14 = .ok (.iconst 0, 1) := by decide +kernel
theorem dX1_isEarlier_15 : decode cX1_isEarlier 15 = .ok (.ireturn, 1) := by decide +kernel
section
variable (d : Nat) (sh : mbSh) (ct : mbCt)
theorem c_isEarlier {x n : Int} (x0 : -1 ≤ x) (x1 : x ≤ 2000) (n0 : -2000 ≤ n) (n1 : n ≤ 2000) : Mt YX1_isEarlier d [.inl x, .inl n] sh sh ct (pI fun r c => r = b01 (x ≠ -1 ∧ x < n) ∧ c = ct) := by
  refine Mt.of rfl (Nat.le_of_ble_eq_true rfl) ?_
  show G _ 0 [some (.inl x), some (.inl n)] [] sh ct
  refine g_iload_n (q := 1) dX1_isEarlier_0 rfl rfl ?_
  refine g_iconst (q := 2) dX1_isEarlier_1 rfl ?_
  refine g_icmp_eq (q := 5) (tg := 14) dX1_isEarlier_2 (by decide) rfl (fun c_2 => ?_) (fun c_2 => ?_)
  · refine g_iconst (q := 15) dX1_isEarlier_14 rfl ?_
    refine g_zreturn dX1_isEarlier_15 rfl (by decide +kernel) ?_
    refine ⟨_, rfl, ?_, rfl⟩; first | (apply b01_t; unfold w32 at *; omega) | (apply b01_f; unfold w32 at *; omega)
  · refine g_iload_n (q := 6) dX1_isEarlier_5 rfl rfl ?_
    refine g_iload_n (q := 7) dX1_isEarlier_6 rfl rfl ?_
    refine g_icmp_ge (q := 10) (tg := 14) dX1_isEarlier_7 (by decide) rfl (fun c_7 => ?_) (fun c_7 => ?_)
    · refine g_iconst (q := 15) dX1_isEarlier_14 rfl ?_
      refine g_zreturn dX1_isEarlier_15 rfl (by decide +kernel) ?_
      refine ⟨_, rfl, ?_, rfl⟩; first | (apply b01_t; unfold w32 at *; omega) | (apply b01_f; unfold w32 at *; omega)
    · refine g_iconst (q := 11) dX1_isEarlier_10 rfl ?_
      refine g_goto (q := 15) dX1_isEarlier_11 (by decide) ?_
      refine g_zreturn dX1_isEarlier_15 rfl (by decide +kernel) ?_
      refine ⟨_, rfl, ?_, rfl⟩; first | (apply b01_t; unfold w32 at *; omega) | (apply b01_f; unfold w32 at *; omega)
/-- numbers of minutes -/
def rngG (f : Int → Int) : Prop := ∀ x : Int, 0 ≤ x → x < 700 → -1 ≤ f x ∧ f x ≤ 1400
def ffC (ct : mbCt) (b : Int) (β : Bk) (mk : Int → Int) (st n r : Int) (c : mbCt) : Prop := MVt ct c b β mk ∧ ((∃ pre k post, brL (msN β mk st) 48 = pre ++ k :: post ∧ r = mnt k ∧ (ct 89 (nxB β st (k / 8 : Nat) (k % 8 : Nat)) ≠ -1 ∧ ct 89 (nxB β st (k / 8 : Nat) (k % 8 : Nat)) < n) ∧ ∀ k' ∈ pre, ¬ (ct 89 (nxB β st (k' / 8 : Nat) (k' % 8 : Nat)) ≠ -1 ∧ ct 89 (nxB β st (k' / 8 : Nat) (k' % 8 : Nat)) < n)) ∨ (r = -1 ∧ ∀ k ∈ brL (msN β mk st) 48, ¬ (ct 89 (nxB β st (k / 8 : Nat) (k % 8 : Nat)) ≠ -1 ∧ ct 89 (nxB β st (k / 8 : Nat) (k % 8 : Nat)) < n)))
theorem c_firstForcing {b st n : Int} {β : Bk} {mk : Int → Int} (S : SH sh) (M : MV ct b β mk) (h0 : 0 ≤ st) (h1 : st < 700) (n0 : 0 ≤ n) (n1 : n ≤ 2000) (hr : rngG (ct 89)) : Mt YX1_firstForcing (d + 3) [.inr (.inr 87), .inl st, .inl n] sh sh ct (pI fun r c => ffC ct b β mk st n r c) := by
  have L := M.L
  have s75 : shA sh 75 = some (20, 48) := S.at _ rfl
  have s76 : shA sh 76 = some (20, 48) := S.at _ rfl
  have s89 : shA sh 89 = some (20, 700) := S.at _ rfl
  have hz := msN_lt β mk st
  generalize hP : (pI fun r c => ffC ct b β mk st n r c) = Po
  refine Mt.of rfl (Nat.le_of_ble_eq_true rfl) ?_
  show G _ 0 [some (.inr (.inr 87)), some (.inl st), some (.inl n), none, none] [] sh ct
  refine g_aload_n (q := 1) dX1_firstForcing_0 rfl rfl ?_
  refine g_getO (q := 4) (kI := 0) fX1_28 (by first | assumption | exact S.at _ rfl) dX1_firstForcing_1 rfl rfl (by first | assumption | exact L.at _ _ rfl | exact LK.at (by assumption) _ _ rfl | ((repeat first | rewrite [wr_na (by decide)] | rewrite [wr_nk (by decide)] | rewrite [wa_na (by decide)]); first | assumption | exact LK.at (by assumption) _ _ rfl) | exact rfl) ?_
  refine g_iload_n (q := 5) dX1_firstForcing_4 rfl rfl ?_
  refine g_aload_n (q := 6) dX1_firstForcing_5 rfl rfl ?_
  refine g_getO (q := 9) (kI := 0) fX1_28 (by first | assumption | exact S.at _ rfl) dX1_firstForcing_6 rfl rfl (by first | assumption | exact L.at _ _ rfl | exact LK.at (by assumption) _ _ rfl | ((repeat first | rewrite [wr_na (by decide)] | rewrite [wr_nk (by decide)] | rewrite [wa_na (by decide)]); first | assumption | exact LK.at (by assumption) _ _ rfl) | exact rfl) ?_
  refine g_iload_n (q := 10) dX1_firstForcing_9 rfl rfl ?_
  refine g_callV (q := 13) lX1_96 mX4_minutesAt nX4_minutesAt rfl (m_minutesAt d sh ct S M h0 h1) (by first | assumption | exact S.at _ rfl) rfl rfl shLe.rf (rmOk.mk (by omega) (by first | exact shLe.rf | assumption)) (Nat.le_of_ble_eq_true rfl) dX1_firstForcing_10 rfl rfl (kL fun r c hp => ?_)
  obtain ⟨rfl, m1⟩ := hp
  refine g_callV (q := 16) lX1_100 mX4_branch nX4_branch rfl (m_branch (d + 1) sh c S m1.2 h0 h1 (by omega) (fun k hk hb => (canB_3 (by rw [msN_bit, decide_eq_true hk, Bool.true_and] at hb; exact hb)).2)) (by first | assumption | exact S.at _ rfl) rfl rfl shLe.rf (rmOk.mk (by omega) (by first | exact shLe.rf | assumption)) (Nat.le_of_ble_eq_true rfl) dX1_firstForcing_13 rfl rfl (kI fun r c2 hp => ?_)
  obtain ⟨rfl, r75, r76, m2⟩ := hp
  have mt := m1.tr m2
  have L2 := mt.2.L
  have e89 : c2 89 = ct 89 := mt.1 89 (by decide)
  generalize hB : brL (msN β mk st) 48 = l at r75 r76
  have hl : l.length ≤ 48 := by rw [← hB]; exact brL_len _ _
  have loop : ∀ (k u : Nat), u + k = l.length → (∀ k' ∈ l.take u, ¬ (ct 89 (nxB β st (k' / 8 : Nat) (k' % 8 : Nat)) ≠ -1 ∧ ct 89 (nxB β st (k' / 8 : Nat) (k' % 8 : Nat)) < n)) → G (mkK YX1_firstForcing (d + 3) sh sh Po) 20 [some (.inr (.inr 87)), some (.inl st), some (.inl n), some (.inl (l.length : Nat)), some (.inl u)] [] sh c2 := by
    intro k
    induction k with
    | zero =>
      intro u hu hno
      refine g_iload (q := 22) dX1_firstForcing_20 rfl rfl ?_
      refine g_iload_n (q := 23) dX1_firstForcing_22 rfl rfl ?_
      refine g_icmp_ge (q := 26) (tg := 65) dX1_firstForcing_23 (by decide) rfl (fun c_23 => ?_) (fun c_23 => ?_)
      · refine g_iconst (q := 66) dX1_firstForcing_65 rfl ?_
        refine g_ireturn dX1_firstForcing_66 rfl ?_
        rw [← hP]
        refine ⟨_, rfl, mt, Or.inr ⟨rfl, ?_⟩⟩
        rw [show u = l.length by omega, List.take_length] at hno
        rw [hB]
        exact hno
      · exact absurd c_23 (by unfold w32; omega)
    | succ k ih =>
      intro u hu hno
      have hul : u < l.length := by omega
      have hmem := List.getElem_mem hul
      have hn := brL_nx (by rw [hB]; exact hmem) β st
      have v75 : c2 75 u = mnt l[u] := r75 u hul
      have v76 : c2 76 u = nxB β st (l[u] / 8 : Nat) (l[u] % 8 : Nat) := r76 u hul
      have hrr := hr _ hn.1 hn.2
      refine g_iload (q := 22) dX1_firstForcing_20 rfl rfl ?_
      refine g_iload_n (q := 23) dX1_firstForcing_22 rfl rfl ?_
      refine g_icmp_ge (q := 26) (tg := 65) dX1_firstForcing_23 (by decide) rfl (fun c_23 => ?_) (fun c_23 => ?_)
      · exact absurd c_23 (by unfold w32; omega)
      · refine g_aload_n (q := 27) dX1_firstForcing_26 rfl rfl ?_
        refine g_getA (q := 30) (kI := 3) fX1_15 (by first | assumption | exact S.at _ rfl) dX1_firstForcing_27 rfl rfl (by first | assumption | exact L.at _ _ rfl | exact LK.at (by assumption) _ _ rfl | ((repeat first | rewrite [wr_na (by decide)] | rewrite [wr_nk (by decide)] | rewrite [wa_na (by decide)]); first | assumption | exact LK.at (by assumption) _ _ rfl) | exact rfl) ?_
        refine g_aload_n (q := 31) dX1_firstForcing_30 rfl rfl ?_
        refine g_getO (q := 34) (kI := 0) fX1_28 (by first | assumption | exact S.at _ rfl) dX1_firstForcing_31 rfl rfl (by first | assumption | exact L.at _ _ rfl | exact LK.at (by assumption) _ _ rfl | ((repeat first | rewrite [wr_na (by decide)] | rewrite [wr_nk (by decide)] | rewrite [wa_na (by decide)]); first | assumption | exact LK.at (by assumption) _ _ rfl) | exact rfl) ?_
        refine g_getA (q := 37) (kI := 9) fX1_104 (by first | assumption | exact S.at _ rfl) dX1_firstForcing_34 rfl rfl (by first | assumption | exact L.at _ _ rfl | exact LK.at (by assumption) _ _ rfl | ((repeat first | rewrite [wr_na (by decide)] | rewrite [wr_nk (by decide)] | rewrite [wa_na (by decide)]); first | assumption | exact LK.at (by assumption) _ _ rfl) | exact rfl) ?_
        refine g_iload (q := 39) dX1_firstForcing_37 rfl rfl ?_
        refine g_iaload (q := 40) (by first | assumption | exact S.at _ rfl) (by omega) (by omega) (by omega) dX1_firstForcing_39 rfl ?_
        rw [v76]
        refine g_iaload (q := 41) (by first | assumption | exact S.at _ rfl) (by omega) (by omega) (by omega) dX1_firstForcing_40 rfl ?_
        refine g_iload_n (q := 42) dX1_firstForcing_41 rfl rfl ?_
        rw [e89]
        refine g_callS (q := 45) lX1_107 mX1_isEarlier sX1_isEarlier rfl (c_isEarlier (d + 2) sh c2 hrr.1 (by omega) (by omega) n1) shLe.rf (rmOk.mk (by omega) (by first | exact shLe.rf | assumption)) (Nat.le_of_ble_eq_true rfl) dX1_firstForcing_42 rfl rfl (kI fun r c3 hp => ?_)
        obtain ⟨rfl, rfl⟩ := hp
        refine g_if_eq (q := 48) (tg := 59) dX1_firstForcing_45 (by decide) rfl (fun c_45 => ?_) (fun c_45 => ?_)
        · refine s_iinc_5_4 (q := 62) dX1_firstForcing_59 rfl rfl rfl ?_
          refine g_goto (q := 20) dX1_firstForcing_62 (by decide) ?_
          have := ih (u + 1) (by omega) ?_
          · rw [Int.natCast_succ] at this
            exact this
          · intro k' hk'
            rw [List.take_add_one, List.getElem?_eq_getElem hul] at hk'
            rcases List.mem_append.mp hk' with h | h
            · exact hno k' h
            · simp at h
              subst h
              intro he
              rw [← b01_t he] at c_45
              exact absurd c_45 (by decide)
        · have hyes : ct 89 (nxB β st (l[u] / 8 : Nat) (l[u] % 8 : Nat)) ≠ -1 ∧ ct 89 (nxB β st (l[u] / 8 : Nat) (l[u] % 8 : Nat)) < n := by
            apply Classical.byContradiction
            intro h
            rw [← b01_f h] at c_45
            exact absurd rfl c_45
          refine g_aload_n (q := 49) dX1_firstForcing_48 rfl rfl ?_
          refine g_getO (q := 52) (kI := 0) fX1_28 (by first | assumption | exact S.at _ rfl) dX1_firstForcing_49 rfl rfl (by first | assumption | exact L.at _ _ rfl | exact LK.at (by assumption) _ _ rfl | ((repeat first | rewrite [wr_na (by decide)] | rewrite [wr_nk (by decide)] | rewrite [wa_na (by decide)]); first | assumption | exact LK.at (by assumption) _ _ rfl) | exact rfl) ?_
          refine g_getA (q := 55) (kI := 8) fX1_110 (by first | assumption | exact S.at _ rfl) dX1_firstForcing_52 rfl rfl (by first | assumption | exact L.at _ _ rfl | exact LK.at (by assumption) _ _ rfl | ((repeat first | rewrite [wr_na (by decide)] | rewrite [wr_nk (by decide)] | rewrite [wa_na (by decide)]); first | assumption | exact LK.at (by assumption) _ _ rfl) | exact rfl) ?_
          refine g_iload (q := 57) dX1_firstForcing_55 rfl rfl ?_
          refine g_iaload (q := 58) (by first | assumption | exact S.at _ rfl) (by omega) (by omega) (by omega) dX1_firstForcing_57 rfl ?_
          rw [v75]
          refine g_ireturn dX1_firstForcing_58 rfl ?_
          rw [← hP]
          refine ⟨_, rfl, mt, Or.inl ⟨l.take u, l[u], l.drop (u + 1), ?_, rfl, hyes, hno⟩⟩
          rw [hB, List.getElem_cons_drop, List.take_append_drop]
  refine s_istore_n_5_3 (q := 17) dX1_firstForcing_16 rfl rfl rfl ?_
  refine g_iconst (q := 18) dX1_firstForcing_17 rfl ?_
  refine s_istore_5_4 (q := 20) dX1_firstForcing_18 rfl rfl rfl ?_
  exact loop l.length 0 (by omega) (fun k hk => by simp at hk)
theorem c_allForce {b st n : Int} {β : Bk} {mk : Int → Int} (S : SH sh) (M : MV ct b β mk) (h0 : 0 ≤ st) (h1 : st < 700) (n0 : 0 ≤ n) (n1 : n ≤ 2000) (hr : rngG (ct 88)) : Mt YX1_allForce (d + 3) [.inr (.inr 87), .inl st, .inl n] sh sh ct (pI fun r c => (r = 0 ∨ r = 1) ∧ (r = 1 ↔ (scG β mk st ≠ [] ∧ ∀ x ∈ scG β mk st, ct 88 x ≠ -1 ∧ ct 88 x < n)) ∧ MVt ct c b β mk) := by
  have L := M.L
  have s76 : shA sh 76 = some (20, 48) := S.at _ rfl
  have s88 : shA sh 88 = some (20, 700) := S.at _ rfl
  have hz := msN_lt β mk st
  generalize hP : (pI fun r c => (r = 0 ∨ r = 1) ∧ (r = 1 ↔ (scG β mk st ≠ [] ∧ ∀ x ∈ scG β mk st, ct 88 x ≠ -1 ∧ ct 88 x < n)) ∧ MVt ct c b β mk) = Po
  refine Mt.of rfl (Nat.le_of_ble_eq_true rfl) ?_
  show G _ 0 [some (.inr (.inr 87)), some (.inl st), some (.inl n), none, none] [] sh ct
  refine g_aload_n (q := 1) dX1_allForce_0 rfl rfl ?_
  refine g_getO (q := 4) (kI := 0) fX1_28 (by first | assumption | exact S.at _ rfl) dX1_allForce_1 rfl rfl (by first | assumption | exact L.at _ _ rfl | exact LK.at (by assumption) _ _ rfl | ((repeat first | rewrite [wr_na (by decide)] | rewrite [wr_nk (by decide)] | rewrite [wa_na (by decide)]); first | assumption | exact LK.at (by assumption) _ _ rfl) | exact rfl) ?_
  refine g_iload_n (q := 5) dX1_allForce_4 rfl rfl ?_
  refine g_aload_n (q := 6) dX1_allForce_5 rfl rfl ?_
  refine g_getO (q := 9) (kI := 0) fX1_28 (by first | assumption | exact S.at _ rfl) dX1_allForce_6 rfl rfl (by first | assumption | exact L.at _ _ rfl | exact LK.at (by assumption) _ _ rfl | ((repeat first | rewrite [wr_na (by decide)] | rewrite [wr_nk (by decide)] | rewrite [wa_na (by decide)]); first | assumption | exact LK.at (by assumption) _ _ rfl) | exact rfl) ?_
  refine g_iload_n (q := 10) dX1_allForce_9 rfl rfl ?_
  refine g_callV (q := 13) lX1_96 mX4_minutesAt nX4_minutesAt rfl (m_minutesAt d sh ct S M h0 h1) (by first | assumption | exact S.at _ rfl) rfl rfl shLe.rf (rmOk.mk (by omega) (by first | exact shLe.rf | assumption)) (Nat.le_of_ble_eq_true rfl) dX1_allForce_10 rfl rfl (kL fun r c hp => ?_)
  obtain ⟨rfl, m1⟩ := hp
  refine g_callV (q := 16) lX1_100 mX4_branch nX4_branch rfl (m_branch (d + 1) sh c S m1.2 h0 h1 (by omega) (fun k hk hb => (canB_3 (by rw [msN_bit, decide_eq_true hk, Bool.true_and] at hb; exact hb)).2)) (by first | assumption | exact S.at _ rfl) rfl rfl shLe.rf (rmOk.mk (by omega) (by first | exact shLe.rf | assumption)) (Nat.le_of_ble_eq_true rfl) dX1_allForce_13 rfl rfl (kI fun r c2 hp => ?_)
  obtain ⟨rfl, r75, r76, m2⟩ := hp
  have mt := m1.tr m2
  have L2 := mt.2.L
  have e88 : c2 88 = ct 88 := mt.1 88 (by decide)
  have hsc : scG β mk st = (brL (msN β mk st) 48).map (fun k => nxB β st (k / 8 : Nat) (k % 8 : Nat)) := rfl
  generalize hB : brL (msN β mk st) 48 = l at r75 r76 hsc
  have hl : l.length ≤ 48 := by rw [← hB]; exact brL_len _ _
  have loop : ∀ (k u : Nat), u + k = l.length → (∀ k' ∈ l.take u, ct 88 (nxB β st (k' / 8 : Nat) (k' % 8 : Nat)) ≠ -1 ∧ ct 88 (nxB β st (k' / 8 : Nat) (k' % 8 : Nat)) < n) → G (mkK YX1_allForce (d + 3) sh sh Po) 20 [some (.inr (.inr 87)), some (.inl st), some (.inl n), some (.inl (l.length : Nat)), some (.inl u)] [] sh c2 := by
    intro k
    induction k with
    | zero =>
      intro u hu hno
      rw [show u = l.length by omega, List.take_length] at hno
      refine g_iload (q := 22) dX1_allForce_20 rfl rfl ?_
      refine g_iload_n (q := 23) dX1_allForce_22 rfl rfl ?_
      refine g_icmp_ge (q := 26) (tg := 56) dX1_allForce_23 (by decide) rfl (fun c_23 => ?_) (fun c_23 => ?_)
      · refine g_iload_n (q := 57) dX1_allForce_56 rfl rfl ?_
        refine g_if_le (q := 60) (tg := 64) dX1_allForce_57 (by decide) rfl (fun c_57 => ?_) (fun c_57 => ?_)
        · have hl0 : l = [] := by
            apply List.length_eq_zero_iff.mp
            unfold w32 at c_57
            omega
          refine g_iconst (q := 65) dX1_allForce_64 rfl ?_
          refine g_zreturn dX1_allForce_65 rfl (by decide +kernel) ?_
          rw [← hP]
          refine ⟨_, rfl, Or.inl rfl, ?_, mt⟩
          rw [hsc, hl0]
          simp
        · have hl0 : l ≠ [] := by
            intro e
            rw [e] at c_57
            exact absurd c_57 (by decide)
          refine g_iconst (q := 61) dX1_allForce_60 rfl ?_
          refine g_goto (q := 65) dX1_allForce_61 (by decide) ?_
          refine g_zreturn dX1_allForce_65 rfl (by decide +kernel) ?_
          rw [← hP]
          refine ⟨_, rfl, Or.inr rfl, ?_, mt⟩
          rw [hsc]
          refine ⟨fun _ => ⟨by simp [hl0], fun x hx => ?_⟩, fun _ => rfl⟩
          obtain ⟨k, hk, rfl⟩ := List.mem_map.mp hx
          exact hno k hk
      · exact absurd c_23 (by unfold w32; omega)
    | succ k ih =>
      intro u hu hno
      have hul : u < l.length := by omega
      have hmem := List.getElem_mem hul
      have hn := brL_nx (by rw [hB]; exact hmem) β st
      have v76 : c2 76 u = nxB β st (l[u] / 8 : Nat) (l[u] % 8 : Nat) := r76 u hul
      have hrr := hr _ hn.1 hn.2
      refine g_iload (q := 22) dX1_allForce_20 rfl rfl ?_
      refine g_iload_n (q := 23) dX1_allForce_22 rfl rfl ?_
      refine g_icmp_ge (q := 26) (tg := 56) dX1_allForce_23 (by decide) rfl (fun c_23 => ?_) (fun c_23 => ?_)
      · exact absurd c_23 (by unfold w32; omega)
      · refine g_aload_n (q := 27) dX1_allForce_26 rfl rfl ?_
        refine g_getA (q := 30) (kI := 2) fX1_9 (by first | assumption | exact S.at _ rfl) dX1_allForce_27 rfl rfl (by first | assumption | exact L.at _ _ rfl | exact LK.at (by assumption) _ _ rfl | ((repeat first | rewrite [wr_na (by decide)] | rewrite [wr_nk (by decide)] | rewrite [wa_na (by decide)]); first | assumption | exact LK.at (by assumption) _ _ rfl) | exact rfl) ?_
        refine g_aload_n (q := 31) dX1_allForce_30 rfl rfl ?_
        refine g_getO (q := 34) (kI := 0) fX1_28 (by first | assumption | exact S.at _ rfl) dX1_allForce_31 rfl rfl (by first | assumption | exact L.at _ _ rfl | exact LK.at (by assumption) _ _ rfl | ((repeat first | rewrite [wr_na (by decide)] | rewrite [wr_nk (by decide)] | rewrite [wa_na (by decide)]); first | assumption | exact LK.at (by assumption) _ _ rfl) | exact rfl) ?_
        refine g_getA (q := 37) (kI := 9) fX1_104 (by first | assumption | exact S.at _ rfl) dX1_allForce_34 rfl rfl (by first | assumption | exact L.at _ _ rfl | exact LK.at (by assumption) _ _ rfl | ((repeat first | rewrite [wr_na (by decide)] | rewrite [wr_nk (by decide)] | rewrite [wa_na (by decide)]); first | assumption | exact LK.at (by assumption) _ _ rfl) | exact rfl) ?_
        refine g_iload (q := 39) dX1_allForce_37 rfl rfl ?_
        refine g_iaload (q := 40) (by first | assumption | exact S.at _ rfl) (by omega) (by omega) (by omega) dX1_allForce_39 rfl ?_
        rw [v76]
        refine g_iaload (q := 41) (by first | assumption | exact S.at _ rfl) (by omega) (by omega) (by omega) dX1_allForce_40 rfl ?_
        refine g_iload_n (q := 42) dX1_allForce_41 rfl rfl ?_
        rw [e88]
        refine g_callS (q := 45) lX1_107 mX1_isEarlier sX1_isEarlier rfl (c_isEarlier (d + 2) sh c2 hrr.1 (by omega) (by omega) n1) shLe.rf (rmOk.mk (by omega) (by first | exact shLe.rf | assumption)) (Nat.le_of_ble_eq_true rfl) dX1_allForce_42 rfl rfl (kI fun r c3 hp => ?_)
        obtain ⟨rfl, rfl⟩ := hp
        refine g_if_ne (q := 48) (tg := 50) dX1_allForce_45 (by decide) rfl (fun c_45 => ?_) (fun c_45 => ?_)
        · have hyes : ct 88 (nxB β st (l[u] / 8 : Nat) (l[u] % 8 : Nat)) ≠ -1 ∧ ct 88 (nxB β st (l[u] / 8 : Nat) (l[u] % 8 : Nat)) < n := by
            apply Classical.byContradiction
            intro h
            rw [← b01_f h] at c_45
            exact absurd rfl c_45
          refine s_iinc_5_4 (q := 53) dX1_allForce_50 rfl rfl rfl ?_
          refine g_goto (q := 20) dX1_allForce_53 (by decide) ?_
          have := ih (u + 1) (by omega) ?_
          · rw [Int.natCast_succ] at this
            exact this
          · intro k' hk'
            rw [List.take_add_one, List.getElem?_eq_getElem hul] at hk'
            rcases List.mem_append.mp hk' with h | h
            · exact hno k' h
            · simp at h
              subst h
              exact hyes
        · have hn' : ¬ (ct 88 (nxB β st (l[u] / 8 : Nat) (l[u] % 8 : Nat)) ≠ -1 ∧ ct 88 (nxB β st (l[u] / 8 : Nat) (l[u] % 8 : Nat)) < n) := by
            intro h
            rw [← b01_t h] at c_45
            exact absurd c_45 (by decide)
          refine g_iconst (q := 49) dX1_allForce_48 rfl ?_
          refine g_zreturn dX1_allForce_49 rfl (by decide +kernel) ?_
          rw [← hP]
          refine ⟨_, rfl, Or.inl rfl, ⟨fun h => absurd h (by decide), fun h => ?_⟩, mt⟩
          exact absurd (h.2 _ (by rw [hsc]; exact List.mem_map.mpr ⟨_, hmem, rfl⟩)) hn'
  refine s_istore_n_5_3 (q := 17) dX1_allForce_16 rfl rfl rfl ?_
  refine g_iconst (q := 18) dX1_allForce_17 rfl ?_
  refine s_istore_5_4 (q := 20) dX1_allForce_18 rfl rfl rfl ?_
  exact loop l.length 0 (by omega) (fun k hk => by simp at hk)
def z01 (f : Int → Int) : Prop := ∀ x : Int, 0 ≤ x → x < 100 → f x = 0 ∨ f x = 1
theorem c_turnToFresh {b : Int} {β : Bk} {mk : Int → Int} (S : SH sh) (M : MV ct b β mk) (hz : z01 (ct 90)) : Mt YX1_turnToFresh (d + 1) [.inr (.inr 87)] sh sh ct (pN fun c => eqBut [90, 91] ct c ∧ z01 (c 91) ∧ (∀ x : Int, 0 ≤ x → x < 100 → c 90 x = 0) ∧ ∀ o s : Int, 0 ≤ o → o < 100 → 0 ≤ s → s < β.n 3 → c 91 o = 0 → ct 90 (ct 74 (s * 100 + o) / 7) = 0) := by
  have L := M.L
  have rg := M.rg
  have hsy := M.sy
  have s74 : shA sh 74 = some (20, 800) := S.at _ rfl
  have s90 : shA sh 90 = some (20, 100) := S.at _ rfl
  have s91 : shA sh 91 = some (20, 100) := S.at _ rfl
  have hb : b = 2 ∨ b = 7 := M.hb
  have sb : ∀ c : mbCt, shA sh b = some (0, 15) := fun _ => by rcases hb with h | h <;> rw [h] <;> exact S.at _ rfl
  have hsb := sb ct
  generalize hP : (pN fun c => eqBut [90, 91] ct c ∧ z01 (c 91) ∧ (∀ x : Int, 0 ≤ x → x < 100 → c 90 x = 0) ∧ ∀ o s : Int, 0 ≤ o → o < 100 → 0 ≤ s → s < β.n 3 → c 91 o = 0 → ct 90 (ct 74 (s * 100 + o) / 7) = 0) = Po
  have outer : ∀ (k m : Nat) (c : mbCt) (o2 : Option gV), m + k = 100 → eqBut [91] ct c → (∀ o : Int, 0 ≤ o → o < m → (c 91 o = 0 ∨ c 91 o = 1) ∧ ∀ s : Int, 0 ≤ s → s < β.n 3 → c 91 o = 0 → ct 90 (ct 74 (s * 100 + o) / 7) = 0) → G (mkK YX1_turnToFresh (d + 1) sh sh Po) 2 [some (.inr (.inr 87)), some (.inl m), o2] [] sh c := by
    intro k
    induction k with
    | zero =>
      intro m c o2 hm he hd
      have Lc : LK c := L.eb he rfl
      refine g_iload_n (q := 3) dX1_turnToFresh_2 rfl rfl ?_
      refine g_bipush (q := 5) dX1_turnToFresh_3 (by decide +kernel) rfl ?_
      refine g_icmp_ge (q := 8) (tg := 74) dX1_turnToFresh_5 (by decide) rfl (fun c_5 => ?_) (fun c_5 => ?_)
      · refine g_aload_n (q := 75) dX1_turnToFresh_74 rfl rfl ?_
        refine g_getA (q := 78) (kI := 4) fX1_18 (by first | assumption | exact S.at _ rfl) dX1_turnToFresh_75 rfl rfl (by first | assumption | exact L.at _ _ rfl | exact LK.at (by assumption) _ _ rfl | ((repeat first | rewrite [wr_na (by decide)] | rewrite [wr_nk (by decide)] | rewrite [wa_na (by decide)]); first | assumption | exact LK.at (by assumption) _ _ rfl) | exact rfl) ?_
        refine g_iconst (q := 79) dX1_turnToFresh_78 rfl ?_
        refine g_callS (q := 82) lX1_53 mJ7_fill_53178 sJ7_fill_53178 rfl (c_fillI d sh c s90 (by decide)) shLe.rf (rmOk.mk (by omega) (by first | exact shLe.rf | assumption)) (Nat.le_of_ble_eq_true rfl) dX1_turnToFresh_79 rfl rfl (kN fun c2 hp => ?_)
        refine g_return dX1_turnToFresh_82 rfl ?_
        rw [← hP]
        have x91 : c2 91 = c 91 := by rw [hp]; exact wa_other _ _ _ _ (by decide)
        refine ⟨rfl, ?_, ?_, ?_, ?_⟩
        · rw [hp]
          exact (he.mono (by decide)).wa (by decide)
        · intro x x0 x1
          rw [x91]
          exact (hd x x0 (by omega)).1
        · intro x x0 x1
          rw [hp, wa_eq]
          unfold flF
          rw [if_pos (by omega)]
        · intro o s o0 o1 s0 s1 h
          rw [x91] at h
          exact (hd o o0 (by omega)).2 s s0 s1 h
      · exact absurd c_5 (by unfold w32; omega)
    | succ k ih =>
      intro m c o2 hm he hd
      have Lc : LK c := L.eb he rfl
      have inner : ∀ (k2 s : Nat) (c2 : mbCt), (s : Int) + k2 = β.n 3 → eqBut [91] ct c2 → (∀ o : Int, 0 ≤ o → o < m → c2 91 o = c 91 o) → (c2 91 m = 0 ∨ c2 91 m = 1) → (∀ s' : Int, 0 ≤ s' → s' < s → c2 91 m = 0 → ct 90 (ct 74 (s' * 100 + m) / 7) = 0) → G (mkK YX1_turnToFresh (d + 1) sh sh Po) 17 [some (.inr (.inr 87)), some (.inl m), some (.inl s)] [] sh c2 := by
        intro k2
        induction k2 with
        | zero =>
          intro s c2 hs he2 g1 g2 g3
          have L2 : LK c2 := L.eb he2 rfl
          have l0 : c2 70 0 = b := by rw [he2 70 (by decide)]; exact M.h0
          have l3 : c2 b 3 = β.n 3 := by rw [he2 b (by rcases hb with h | h <;> rw [h] <;> decide), M.n]
          refine g_iload_n (q := 18) dX1_turnToFresh_17 rfl rfl ?_
          refine g_aload_n (q := 19) dX1_turnToFresh_18 rfl rfl ?_
          refine g_getO (q := 22) (kI := 0) fX1_28 (by first | assumption | exact S.at _ rfl) dX1_turnToFresh_19 rfl rfl (by first | assumption | exact L.at _ _ rfl | exact LK.at (by assumption) _ _ rfl | ((repeat first | rewrite [wr_na (by decide)] | rewrite [wr_nk (by decide)] | rewrite [wa_na (by decide)]); first | assumption | exact LK.at (by assumption) _ _ rfl) | exact rfl) ?_
          refine g_getO (q := 25) (kI := 0) fX1_77 (by first | assumption | exact S.at _ rfl) dX1_turnToFresh_22 rfl rfl (by first | assumption | exact L.at _ _ rfl | exact LK.at (by assumption) _ _ rfl | ((repeat first | rewrite [wr_na (by decide)] | rewrite [wr_nk (by decide)] | rewrite [wa_na (by decide)]); first | assumption | exact LK.at (by assumption) _ _ rfl) | exact rfl) ?_
          refine g_getI (q := 28) (kI := 3) fX1_81 (by first | assumption | exact S.at _ rfl) dX1_turnToFresh_25 rfl rfl ?_
          rw [l3]
          refine g_icmp_ge (q := 31) (tg := 68) dX1_turnToFresh_28 (by decide) rfl (fun c_28 => ?_) (fun c_28 => ?_)
          · refine s_iinc_3_1 (q := 71) dX1_turnToFresh_68 rfl rfl rfl ?_
            refine g_goto (q := 2) dX1_turnToFresh_71 (by decide) ?_
            have := ih (m + 1) c2 (some (.inl s)) (by omega) he2 ?_
            · rw [Int.natCast_succ] at this
              exact this
            · intro o o0 o1
              by_cases e : o = m
              · subst e
                exact ⟨g2, fun s' s0 s1 h => g3 s' s0 (by omega) h⟩
              · rw [g1 o o0 (by omega)]
                exact hd o o0 (by omega)
          · exact absurd c_28 (by unfold w32; omega)
        | succ k2 ih2 =>
          intro s c2 hs he2 g1 g2 g3
          have L2 : LK c2 := L.eb he2 rfl
          have l0 : c2 70 0 = b := by rw [he2 70 (by decide)]; exact M.h0
          have l3 : c2 b 3 = β.n 3 := by rw [he2 b (by rcases hb with h | h <;> rw [h] <;> decide), M.n]
          have x74 : c2 74 = ct 74 := he2 74 (by decide)
          have x90 : c2 90 = ct 90 := he2 90 (by decide)
          have htu := M.tu s m (by omega) (by rw [M.n]; omega) (by omega) (by omega)
          have c91 := c9_in ((m : Int) / 10 + ct (b + 2) s)
          have c92 := c9_in ((m : Int) % 10 + ct (b + 3) s)
          generalize hv : ct 74 ((s : Int) * 100 + m) = v at htu
          have hv0 : 0 ≤ v ∧ v < 700 := by omega
          have ed : (w32 v).tdiv (w32 7) = v / 7 := by rw [w32_id (by omega) (by omega), td_pos hv0.1]; rfl
          have hzz := hz (v / 7) (by omega) (by omega)
          have hor := (and01 g2 hzz).2
          refine g_iload_n (q := 18) dX1_turnToFresh_17 rfl rfl ?_
          refine g_aload_n (q := 19) dX1_turnToFresh_18 rfl rfl ?_
          refine g_getO (q := 22) (kI := 0) fX1_28 (by first | assumption | exact S.at _ rfl) dX1_turnToFresh_19 rfl rfl (by first | assumption | exact L.at _ _ rfl | exact LK.at (by assumption) _ _ rfl | ((repeat first | rewrite [wr_na (by decide)] | rewrite [wr_nk (by decide)] | rewrite [wa_na (by decide)]); first | assumption | exact LK.at (by assumption) _ _ rfl) | exact rfl) ?_
          refine g_getO (q := 25) (kI := 0) fX1_77 (by first | assumption | exact S.at _ rfl) dX1_turnToFresh_22 rfl rfl (by first | assumption | exact L.at _ _ rfl | exact LK.at (by assumption) _ _ rfl | ((repeat first | rewrite [wr_na (by decide)] | rewrite [wr_nk (by decide)] | rewrite [wa_na (by decide)]); first | assumption | exact LK.at (by assumption) _ _ rfl) | exact rfl) ?_
          refine g_getI (q := 28) (kI := 3) fX1_81 (by first | assumption | exact S.at _ rfl) dX1_turnToFresh_25 rfl rfl ?_
          rw [l3]
          refine g_icmp_ge (q := 31) (tg := 68) dX1_turnToFresh_28 (by decide) rfl (fun c_28 => ?_) (fun c_28 => ?_)
          · exact absurd c_28 (by unfold w32; omega)
          · refine g_aload_n (q := 32) dX1_turnToFresh_31 rfl rfl ?_
            refine g_getA (q := 35) (kI := 5) fX1_21 (by first | assumption | exact S.at _ rfl) dX1_turnToFresh_32 rfl rfl (by first | assumption | exact L.at _ _ rfl | exact LK.at (by assumption) _ _ rfl | ((repeat first | rewrite [wr_na (by decide)] | rewrite [wr_nk (by decide)] | rewrite [wa_na (by decide)]); first | assumption | exact LK.at (by assumption) _ _ rfl) | exact rfl) ?_
            refine g_iload_n (q := 36) dX1_turnToFresh_35 rfl rfl ?_
            refine g_dup2 (q := 37) dX1_turnToFresh_36 rfl rfl rfl ?_
            refine g_iaload (q := 38) (by first | assumption | exact S.at _ rfl) (by omega) (by omega) (by omega) dX1_turnToFresh_37 rfl ?_
            refine g_aload_n (q := 39) dX1_turnToFresh_38 rfl rfl ?_
            refine g_getA (q := 42) (kI := 4) fX1_18 (by first | assumption | exact S.at _ rfl) dX1_turnToFresh_39 rfl rfl (by first | assumption | exact L.at _ _ rfl | exact LK.at (by assumption) _ _ rfl | ((repeat first | rewrite [wr_na (by decide)] | rewrite [wr_nk (by decide)] | rewrite [wa_na (by decide)]); first | assumption | exact LK.at (by assumption) _ _ rfl) | exact rfl) ?_
            refine g_aload_n (q := 43) dX1_turnToFresh_42 rfl rfl ?_
            refine g_getO (q := 46) (kI := 0) fX1_28 (by first | assumption | exact S.at _ rfl) dX1_turnToFresh_43 rfl rfl (by first | assumption | exact L.at _ _ rfl | exact LK.at (by assumption) _ _ rfl | ((repeat first | rewrite [wr_na (by decide)] | rewrite [wr_nk (by decide)] | rewrite [wa_na (by decide)]); first | assumption | exact LK.at (by assumption) _ _ rfl) | exact rfl) ?_
            refine g_getA (q := 49) (kI := 5) fX1_86 (by first | assumption | exact S.at _ rfl) dX1_turnToFresh_46 rfl rfl (by first | assumption | exact L.at _ _ rfl | exact LK.at (by assumption) _ _ rfl | ((repeat first | rewrite [wr_na (by decide)] | rewrite [wr_nk (by decide)] | rewrite [wa_na (by decide)]); first | assumption | exact LK.at (by assumption) _ _ rfl) | exact rfl) ?_
            refine g_iload_n (q := 50) dX1_turnToFresh_49 rfl rfl ?_
            refine g_bipush (q := 52) dX1_turnToFresh_50 (by decide +kernel) rfl ?_
            refine g_imul (q := 53) dX1_turnToFresh_52 rfl ?_
            refine g_iload_n (q := 54) dX1_turnToFresh_53 rfl rfl ?_
            refine g_iadd (q := 55) dX1_turnToFresh_54 rfl ?_
            refine g_iaload (q := 56) (by first | assumption | exact S.at _ rfl) (by omega) (by omega) (by omega) dX1_turnToFresh_55 rfl ?_
            rw [x74, hv]
            refine g_bipush (q := 58) dX1_turnToFresh_56 (by decide +kernel) rfl ?_
            refine g_idiv (q := 59) dX1_turnToFresh_58 (by decide) rfl ?_
            rw [ed]
            refine g_iaload (q := 60) (by first | assumption | exact S.at _ rfl) (by omega) (by omega) (by omega) dX1_turnToFresh_59 rfl ?_
            rw [x90]
            refine g_ior (q := 61) dX1_turnToFresh_60 rfl ?_
            rw [hor]
            refine g_iastore (q := 62) (by first | assumption | exact S.at _ rfl) (by omega) (by omega) (by omega) dX1_turnToFresh_61 rfl ?_
            refine s_iinc_3_2 (q := 65) dX1_turnToFresh_62 rfl rfl rfl ?_
            refine g_goto (q := 17) dX1_turnToFresh_65 (by decide) ?_
            have := ih2 (s + 1) (wr c2 91 m (b01 (c2 91 m = 1 ∨ ct 90 (v / 7) = 1))) (by omega) (he2.wr (by decide)) (fun o o0 o1 => by rw [wr_nk (by omega)]; exact g1 o o0 o1) (by rw [wr_eq]; exact b01_in _) ?_
            · rw [Int.natCast_succ] at this
              exact this
            · intro s' s0 s1 h
              rw [wr_eq] at h
              have hn : ¬ (c2 91 m = 1 ∨ ct 90 (v / 7) = 1) := by
                intro hh
                rw [← b01_t hh] at h
                cases h
              by_cases e : s' = s
              · rw [e, hv]
                rcases hzz with h1 | h1
                · exact h1
                · exact absurd (Or.inr h1) hn
              · refine g3 s' s0 (by omega) ?_
                rcases g2 with h1 | h1
                · exact h1
                · exact absurd (Or.inl h1) hn
      refine g_iload_n (q := 3) dX1_turnToFresh_2 rfl rfl ?_
      refine g_bipush (q := 5) dX1_turnToFresh_3 (by decide +kernel) rfl ?_
      refine g_icmp_ge (q := 8) (tg := 74) dX1_turnToFresh_5 (by decide) rfl (fun c_5 => ?_) (fun c_5 => ?_)
      · exact absurd c_5 (by unfold w32; omega)
      · refine g_aload_n (q := 9) dX1_turnToFresh_8 rfl rfl ?_
        refine g_getA (q := 12) (kI := 5) fX1_21 (by first | assumption | exact S.at _ rfl) dX1_turnToFresh_9 rfl rfl (by first | assumption | exact L.at _ _ rfl | exact LK.at (by assumption) _ _ rfl | ((repeat first | rewrite [wr_na (by decide)] | rewrite [wr_nk (by decide)] | rewrite [wa_na (by decide)]); first | assumption | exact LK.at (by assumption) _ _ rfl) | exact rfl) ?_
        refine g_iload_n (q := 13) dX1_turnToFresh_12 rfl rfl ?_
        refine g_iconst (q := 14) dX1_turnToFresh_13 rfl ?_
        refine g_iastore (q := 15) (by first | assumption | exact S.at _ rfl) (by omega) (by omega) (by omega) dX1_turnToFresh_14 rfl ?_
        refine g_iconst (q := 16) dX1_turnToFresh_15 rfl ?_
        refine s_istore_n_3_2 (q := 17) dX1_turnToFresh_16 rfl rfl rfl ?_
        have := inner (β.n 3).toNat 0 (wr c 91 m 0) (by omega) (he.wr (by decide)) (fun o o0 o1 => by rw [wr_nk (by omega)]) (Or.inl wr_eq) (fun s' s0 s1 => by omega)
        exact this
  refine Mt.of rfl (Nat.le_of_ble_eq_true rfl) ?_
  show G _ 0 [some (.inr (.inr 87)), none, none] [] sh ct
  refine g_iconst (q := 1) dX1_turnToFresh_0 rfl ?_
  refine s_istore_n_3_1 (q := 2) dX1_turnToFresh_1 rfl rfl rfl ?_
  exact outer 100 0 ct none (by omega) eqBut.rf (fun o o0 o1 => by omega)
end
