/-! the reference's book -/
theorem dX12_plain_0 : decode cX12_plain 0 = .ok (.iconst 0, 1) := by decide +kernel
theorem dX12_plain_1 : decode cX12_plain 1 = .ok (.istore_n 1, 1) := by decide +kernel
theorem dX12_plain_2 : decode cX12_plain 2 = .ok (.iload_n 1, 1) := by decide +kernel
theorem dX12_plain_3 : decode cX12_plain 3 = .ok (.sipush 1040, 3) := by decide +kernel
theorem dX12_plain_6 : decode cX12_plain 6 = .ok (.if_icmp .ge 13, 3) := by decide +kernel
theorem dX12_plain_9 : decode cX12_plain 9 = .ok (.aload_n 0, 1) := by decide +kernel
theorem dX12_plain_10 : decode cX12_plain 10 = .ok (.iload_n 1, 1) := by decide +kernel
theorem dX12_plain_11 : decode cX12_plain 11 = .ok (.iconst 0, 1) := by decide +kernel
theorem dX12_plain_12 : decode cX12_plain 12 = .ok (.iastore, 1) := by decide +kernel
theorem dX12_plain_13 : decode cX12_plain 13 = .ok (.iinc 1 1, 3) := by decide +kernel
theorem dX12_plain_16 : decode cX12_plain 16 = .ok (.goto (-14), 3) := by decide +kernel
theorem dX12_plain_19 : decode cX12_plain 19 = .ok (.aload_n 0, 1) := by decide +kernel
theorem dX12_plain_20 : decode cX12_plain 20 = .ok (.bipush 30, 2) := by decide +kernel
theorem dX12_plain_22 : decode cX12_plain 22 = .ok (.bipush 6, 2) := by decide +kernel
theorem dX12_plain_24 : decode cX12_plain 24 = .ok (.iastore, 1) := by decide +kernel
theorem dX12_plain_25 : decode cX12_plain 25 = .ok (.return_, 1) := by decide +kernel
theorem dX12_book_0 : decode cX12_book 0 = .ok (.aload_n 0, 1) := by decide +kernel
theorem dX12_book_1 : decode cX12_book 1 = .ok (.iconst 0, 1) := by decide +kernel
theorem dX12_book_2 : decode cX12_book 2 = .ok (.putfield 1, 3) := by decide +kernel
theorem dX12_book_5 : decode cX12_book 5 = .ok (.iload_n 1, 1) := by decide +kernel
theorem dX12_book_6 : decode cX12_book 6 = .ok (.i2l, 1) := by decide +kernel
theorem dX12_book_7 : decode cX12_book 7 = .ok (.lconst 0, 1) := by decide +kernel
theorem dX12_book_8 : decode cX12_book 8 = .ok (.aload_n 0, 1) := by decide +kernel
theorem dX12_book_9 : decode cX12_book 9 = .ok (.getfield 88, 3) := by decide +kernel
theorem dX12_book_12 : decode cX12_book 12 = .ok (.i2l, 1) := by decide +kernel
theorem dX12_book_13 : decode cX12_book 13 = .ok (.invokestatic 150, 3) := by decide +kernel
theorem dX12_book_16 : decode cX12_book 16 = .ok (.ifCond .ne 6, 3) := by decide +kernel
theorem dX12_book_19 : decode cX12_book 19 = .ok (.bipush (-3), 2) := by decide +kernel
theorem dX12_book_21 : decode cX12_book 21 = .ok (.ireturn, 1) := by decide +kernel
theorem dX12_book_22 : decode cX12_book 22 = .ok (.aload_n 0, 1) := by decide +kernel
theorem dX12_book_23 : decode cX12_book 23 = .ok (.iload_n 1, 1) := by decide +kernel
theorem dX12_book_24 : decode cX12_book 24 = .ok (.putfield 91, 3) := by decide +kernel
theorem dX12_book_27 : decode cX12_book 27 = .ok (.aload_n 0, 1) := by decide +kernel
theorem dX12_book_28 : decode cX12_book 28 = .ok (.iconst 0, 1) := by decide +kernel
theorem dX12_book_29 : decode cX12_book 29 = .ok (.putfield 88, 3) := by decide +kernel
theorem dX12_book_32 : decode cX12_book 32 = .ok (.aload_n 0, 1) := by decide +kernel
theorem dX12_book_33 : decode cX12_book 33 = .ok (.iconst 0, 1) := by decide +kernel
theorem dX12_book_34 : decode cX12_book 34 = .ok (.putfield 109, 3) := by decide +kernel
theorem dX12_book_37 : decode cX12_book 37 = .ok (.aload_n 0, 1) := by decide +kernel
theorem dX12_book_38 : decode cX12_book 38 = .ok (.iconst 0, 1) := by decide +kernel
theorem dX12_book_39 : decode cX12_book 39 = .ok (.putfield 134, 3) := by decide +kernel
theorem dX12_book_42 : decode cX12_book 42 = .ok (.aload_n 0, 1) := by decide +kernel
theorem dX12_book_43 : decode cX12_book 43 = .ok (.getfield 24, 3) := by decide +kernel
theorem dX12_book_46 : decode cX12_book 46 = .ok (.invokestatic 84, 3) := by decide +kernel
theorem dX12_book_49 : decode cX12_book 49 = .ok (.aload_n 0, 1) := by decide +kernel
theorem dX12_book_50 : decode cX12_book 50 = .ok (.invokevirtual 143, 3) := by decide +kernel
theorem dX12_book_53 : decode cX12_book 53 = .ok (.aload_n 0, 1) := by decide +kernel
theorem dX12_book_54 : decode cX12_book 54 = .ok (.iconst 0, 1) := by decide +kernel
theorem dX12_book_55 : decode cX12_book 55 = .ok (.invokevirtual 169, 3) := by decide +kernel
theorem dX12_book_58 : decode cX12_book 58 = .ok (.ifCond .ne 8, 3) := by decide +kernel
theorem dX12_book_61 : decode cX12_book 61 = .ok (.aload_n 0, 1) := by decide +kernel
theorem dX12_book_62 : decode cX12_book 62 = .ok (.iconst 2, 1) := by decide +kernel
theorem dX12_book_63 : decode cX12_book 63 = .ok (.invokevirtual 146, 3) := by decide +kernel
theorem dX12_book_66 : decode cX12_book 66 = .ok (.aload_n 0, 1) := by decide +kernel
theorem dX12_book_67 : decode cX12_book 67 = .ok (.iconst 1, 1) := by decide +kernel
theorem dX12_book_68 : decode cX12_book 68 = .ok (.invokevirtual 169, 3) := by decide +kernel
theorem dX12_book_71 : decode cX12_book 71 = .ok (.ifCond .ne 8, 3) := by decide +kernel
theorem dX12_book_74 : decode cX12_book 74 = .ok (.aload_n 0, 1) := by decide +kernel
theorem dX12_book_75 : decode cX12_book 75 = .ok (.iconst 2, 1) := by decide +kernel
theorem dX12_book_76 : decode cX12_book 76 = .ok (.invokevirtual 146, 3) := by decide +kernel
theorem dX12_book_79 : decode cX12_book 79 = .ok (.aload_n 0, 1) := by decide +kernel
theorem dX12_book_80 : decode cX12_book 80 = .ok (.getfield 24, 3) := by decide +kernel
theorem dX12_book_83 : decode cX12_book 83 = .ok (.iconst 3, 1) := by decide +kernel
theorem dX12_book_84 : decode cX12_book 84 = .ok (.aload_n 0, 1) := by decide +kernel
theorem dX12_book_85 : decode cX12_book 85 = .ok (.iconst 0, 1) := by decide +kernel
theorem dX12_book_86 : decode cX12_book 86 = .ok (.bipush 9, 2) := by decide +kernel
theorem dX12_book_88 : decode cX12_book 88 = .ok (.invokevirtual 187, 3) := by decide +kernel
theorem dX12_book_91 : decode cX12_book 91 = .ok (.iastore, 1) := by decide +kernel
theorem dX12_book_92 : decode cX12_book 92 = .ok (.aload_n 0, 1) := by decide +kernel
theorem dX12_book_93 : decode cX12_book 93 = .ok (.iconst 2, 1) := by decide +kernel
theorem dX12_book_94 : decode cX12_book 94 = .ok (.invokevirtual 169, 3) := by decide +kernel
theorem dX12_book_97 : decode cX12_book 97 = .ok (.ifCond .ne 8, 3) := by decide +kernel
theorem dX12_book_100 : decode cX12_book 100 = .ok (.aload_n 0, 1) := by decide +kernel
theorem dX12_book_101 : decode cX12_book 101 = .ok (.iconst 2, 1) := by decide +kernel
theorem dX12_book_102 : decode cX12_book 102 = .ok (.invokevirtual 146, 3) := by decide +kernel
theorem dX12_book_105 : decode cX12_book 105 = .ok (.aload_n 0, 1) := by decide +kernel
theorem dX12_book_106 : decode cX12_book 106 = .ok (.getfield 24, 3) := by decide +kernel
theorem dX12_book_109 : decode cX12_book 109 = .ok (.iconst 4, 1) := by decide +kernel
theorem dX12_book_110 : decode cX12_book 110 = .ok (.aload_n 0, 1) := by decide +kernel
theorem dX12_book_111 : decode cX12_book 111 = .ok (.iconst 0, 1) := by decide +kernel
theorem dX12_book_112 : decode cX12_book 112 = .ok (.bipush 9, 2) := by decide +kernel
theorem dX12_book_114 : decode cX12_book 114 = .ok (.invokevirtual 187, 3) := by decide +kernel
theorem dX12_book_117 : decode cX12_book 117 = .ok (.iastore, 1) := by decide +kernel
theorem dX12_book_118 : decode cX12_book 118 = .ok (.aload_n 0, 1) := by decide +kernel
theorem dX12_book_119 : decode cX12_book 119 = .ok (.invokevirtual 204, 3) := by decide +kernel
theorem dX12_book_122 : decode cX12_book 122 = .ok (.aload_n 0, 1) := by decide +kernel
theorem dX12_book_123 : decode cX12_book 123 = .ok (.getfield 134, 3) := by decide +kernel
theorem dX12_book_126 : decode cX12_book 126 = .ok (.ifCond .ne 23, 3) := by decide +kernel
theorem dX12_book_129 : decode cX12_book 129 = .ok (.aload_n 0, 1) := by decide +kernel
theorem dX12_book_130 : decode cX12_book 130 = .ok (.getfield 116, 3) := by decide +kernel
theorem dX12_book_133 : decode cX12_book 133 = .ok (.bipush 24, 2) := by decide +kernel
theorem dX12_book_135 : decode cX12_book 135 = .ok (.if_icmp .eq 14, 3) := by decide +kernel
theorem dX12_book_138 : decode cX12_book 138 = .ok (.aload_n 0, 1) := by decide +kernel
theorem dX12_book_139 : decode cX12_book 139 = .ok (.invokevirtual 207, 3) := by decide +kernel
theorem dX12_book_142 : decode cX12_book 142 = .ok (.aload_n 0, 1) := by decide +kernel
theorem dX12_book_143 : decode cX12_book 143 = .ok (.invokevirtual 204, 3) := by decide +kernel
theorem dX12_book_146 : decode cX12_book 146 = .ok (.goto (-24), 3) := by decide +kernel
theorem dX12_book_149 : decode cX12_book 149 = .ok (.aload_n 0, 1) := by decide +kernel
theorem dX12_book_150 : decode cX12_book 150 = .ok (.aload_n 0, 1) := by decide +kernel
theorem dX12_book_151 : decode cX12_book 151 = .ok (.getfield 134, 3) := by decide +kernel
theorem dX12_book_154 : decode cX12_book 154 = .ok (.putfield 210, 3) := by decide +kernel
theorem dX12_book_157 : decode cX12_book 157 = .ok (.aload_n 0, 1) := by decide +kernel
theorem dX12_book_158 : decode cX12_book 158 = .ok (.aload_n 0, 1) := by decide +kernel
theorem dX12_book_159 : decode cX12_book 159 = .ok (.getfield 134, 3) := by decide +kernel
theorem dX12_book_162 : decode cX12_book 162 = .ok (.ifCond .ne 7, 3) := by decide +kernel
theorem dX12_book_165 : decode cX12_book 165 = .ok (.iconst (-1), 1) := by decide +kernel
theorem dX12_book_166 : decode cX12_book 166 = .ok (.goto 7, 3) := by decide +kernel
theorem dX12_book_169 : decode cX12_book 169 = .ok (.aload_n 0, 1) := by decide +kernel
theorem dX12_book_170 : decode cX12_book 170 = .ok (.getfield 137, 3) := by decide +kernel
theorem dX12_book_173 : decode cX12_book 173 = .ok (.putfield 27, 3) := by decide +kernel
theorem dX12_book_176 : decode cX12_book 176 = .ok (.aload_n 0, 1) := by decide +kernel
theorem dX12_book_177 : decode cX12_book 177 = .ok (.getfield 134, 3) := by decide +kernel
theorem dX12_book_180 : decode cX12_book 180 = .ok (.ifCond .eq 11, 3) := by decide +kernel
theorem dX12_book_183 : decode cX12_book 183 = .ok (.bipush (-30), 2) := by decide +kernel
theorem dX12_book_185 : decode cX12_book 185 = .ok (.aload_n 0, 1) := by decide +kernel
theorem dX12_book_186 : decode cX12_book 186 = .ok (.getfield 134, 3) := by decide +kernel
theorem dX12_book_189 : decode cX12_book 189 = .ok (.isub, 1) := by decide +kernel
theorem dX12_book_190 : decode cX12_book 190 = .ok (.ireturn, 1) := by decide +kernel
theorem dX12_book_191 : decode cX12_book 191 = .ok (.iconst 0, 1) := by decide +kernel
theorem dX12_book_192 : decode cX12_book 192 = .ok (.istore_n 2, 1) := by decide +kernel
theorem dX12_book_193 : decode cX12_book 193 = .ok (.iload_n 2, 1) := by decide +kernel
theorem dX12_book_194 : decode cX12_book 194 = .ok (.sipush 1040, 3) := by decide +kernel
theorem dX12_book_197 : decode cX12_book 197 = .ok (.if_icmp .ge 21, 3) := by decide +kernel
theorem dX12_book_200 : decode cX12_book 200 = .ok (.aload_n 0, 1) := by decide +kernel
theorem dX12_book_201 : decode cX12_book 201 = .ok (.getfield 13, 3) := by decide +kernel
theorem dX12_book_204 : decode cX12_book 204 = .ok (.iload_n 2, 1) := by decide +kernel
theorem dX12_book_205 : decode cX12_book 205 = .ok (.aload_n 0, 1) := by decide +kernel
theorem dX12_book_206 : decode cX12_book 206 = .ok (.getfield 24, 3) := by decide +kernel
theorem dX12_book_209 : decode cX12_book 209 = .ok (.iload_n 2, 1) := by decide +kernel
theorem dX12_book_210 : decode cX12_book 210 = .ok (.iaload, 1) := by decide +kernel
theorem dX12_book_211 : decode cX12_book 211 = .ok (.iastore, 1) := by decide +kernel
theorem dX12_book_212 : decode cX12_book 212 = .ok (.iinc 2 1, 3) := by decide +kernel
theorem dX12_book_215 : decode cX12_book 215 = .ok (.goto (-22), 3) := by decide +kernel
theorem dX12_book_218 : decode cX12_book 218 = .ok (.aload_n 0, 1) := by decide +kernel
theorem dX12_book_219 : decode cX12_book 219 = .ok (.invokevirtual 213, 3) := by decide +kernel
theorem dX12_book_222 : decode cX12_book 222 = .ok (.aload_n 0, 1) := by decide +kernel
theorem dX12_book_223 : decode cX12_book 223 = .ok (.getfield 13, 3) := by decide +kernel
theorem dX12_book_226 : decode cX12_book 226 = .ok (.iconst 0, 1) := by decide +kernel
theorem dX12_book_227 : decode cX12_book 227 = .ok (.iaload, 1) := by decide +kernel
theorem dX12_book_228 : decode cX12_book 228 = .ok (.ireturn, 1) := by decide +kernel
section
variable (d : Nat) (sh : mbSh) (ct : mbCt)
theorem tw_plain {o : Int} {len : Nat} (ho : shA sh o = some (20, len)) (hl : 1040 ≤ len) (hl2 : len < 2147483648) : Mt YX12_plain d [.inr (.inr o)] sh sh ct (pN fun c => (∀ j, 0 ≤ j → j < 1040 → c o j = if j = 30 then 6 else 0) ∧ (∀ j, ¬ (0 ≤ j ∧ j < 1040) → c o j = ct o j) ∧ eqBut [o] ct c) := by
  refine Mt.of rfl (Nat.le_of_ble_eq_true rfl) ?_
  show G _ 0 [some (.inr (.inr o)), none] [] sh ct
  refine g_iconst (q := 1) dX12_plain_0 rfl ?_
  refine s_istore_n_2_1 (q := 2) dX12_plain_1 rfl rfl rfl ?_
  refine g_for (fun x => [some (.inr (.inr o)), some (.inl x)]) (fun x c => 0 ≤ x ∧ (∀ j, 0 ≤ j → j < x → c o j = 0) ∧ (∀ j, ¬ (0 ≤ j ∧ j < x) → c o j = ct o j) ∧ eqBut [o] ct c) 1040 ?_ ?_ (i := 0) (by omega) ⟨by omega, fun j _ _ => by omega, fun j _ => rfl, eqBut.rf⟩ (by simp [lsSub])
  · rintro x c hx ⟨x0, i1, i2, i3⟩ k
    refine g_iload_n (q := 3) dX12_plain_2 rfl rfl ?_
    refine g_sipush (q := 6) dX12_plain_3 (by decide +kernel) rfl ?_
    refine g_icmp_ge (q := 9) (tg := 19) dX12_plain_6 (by decide) rfl (fun c_6 => ?_) (fun c_6 => ?_)
    · exact absurd c_6 (by rw [w32_id (x := x) (by omega) (by omega), show w32 1040 = 1040 from rfl]; omega)
    · refine g_aload_n (q := 10) dX12_plain_9 rfl rfl ?_
      refine g_iload_n (q := 11) dX12_plain_10 rfl rfl ?_
      refine g_iconst (q := 12) dX12_plain_11 rfl ?_
      refine g_iastore (q := 13) (by first | assumption | exact S.at _ rfl) (by omega) (by omega) (by omega) dX12_plain_12 rfl ?_
      refine s_iinc_2_1 (q := 16) dX12_plain_13 rfl rfl rfl ?_
      refine g_goto (q := 2) dX12_plain_16 (by decide) ?_
      refine k _ _ (by simp [lsSub]) ⟨by omega, fun j j0 j1 => ?_, fun j hj => ?_, i3.tr (eqBut.rf.wr (by simp))⟩
      · by_cases h : j = x
        · rw [h, wr_eq]
        · rw [wr_nk h]; exact i1 j j0 (by omega)
      · rw [wr_nk (by omega)]; exact i2 j (by omega)
  · rintro c ⟨x0, i1, i2, i3⟩
    refine g_iload_n (q := 3) dX12_plain_2 rfl rfl ?_
    refine g_sipush (q := 6) dX12_plain_3 (by decide +kernel) rfl ?_
    refine g_icmp_ge (q := 9) (tg := 19) dX12_plain_6 (by decide) rfl (fun c_6 => ?_) (fun c_6 => ?_)
    · refine g_aload_n (q := 20) dX12_plain_19 rfl rfl ?_
      refine g_bipush (q := 22) dX12_plain_20 (by decide +kernel) rfl ?_
      refine g_bipush (q := 24) dX12_plain_22 (by decide +kernel) rfl ?_
      refine g_iastore (q := 25) (by first | assumption | exact S.at _ rfl) (by omega) (by omega) (by omega) dX12_plain_24 rfl ?_
      refine g_return dX12_plain_25 rfl ?_
      refine ⟨rfl, fun j j0 j1 => ?_, fun j hj => ?_, i3.tr (eqBut.rf.wr (by simp))⟩
      · by_cases h : j = 30
        · rw [if_pos h, h, wr_eq]
        · rw [if_neg h, wr_nk h]; exact i1 j j0 j1
      · rw [wr_nk (by omega)]; exact i2 j hj
    · exact absurd c_6 (Int.lt_irrefl _)
end
/-- the laws of a book that was read, as the reference has them -/
theorem law_mLaw {a : Int → Int} {cs : List Int} {law u v : Int} {l : List Int} (h : lawS cs u v l) (ok : lawOk l) (hc : (cs.length : Int) ≤ 900) (h1 : a (6 + law) = b01 (u ≠ v)) (h2 : a (8 + law) = u) (h3 : a (10 + law) = v - u) (h4 : ∀ j : Nat, j < cs.length → a (140 + j) = mTr (cs.getD j 0)) : mLaw a 0 law l := by
  obtain ⟨a1, a2, a3, a4⟩ := h
  unfold mLaw
  rw [Int.zero_add, Int.zero_add, Int.zero_add, Int.zero_add, h1, h2, h3]
  refine ⟨?_, by omega, a1, by omega, fun k op hk => ?_, ok⟩
  · refine b01_c ?_
    constructor
    · intro z e
      rw [e] at a2
      simp at a2
      omega
    · intro z e
      exact z (List.eq_nil_of_length_eq_zero (by omega))
  · have hkl : k < l.length := by
      apply Classical.byContradiction
      intro z
      rw [List.getElem?_eq_none (by omega)] at hk
      cases hk
    have h5 := h4 (u.toNat + k) (by omega)
    rw [a4 k hkl, show (140 : Int) + ((u.toNat + k : Nat) : Int) = 140 + u + k by omega] at h5
    rw [h5, List.getD_eq_getElem?_getD, hk]
    rfl
section
variable {c : mbCt} {f K Pl E : Int → Int} {n T : Int} {a : PS × BS} {γ : Bk}
theorem MB.bk {r : Int → Int} (B : MB c f n T K Pl E a) (hI : bkRi T a) (hw : a.1.2.1 = 0) (hγ : bkT γ a) (e : ∀ j, 0 ≤ j → j < 1040 → r j = c 96 j) : mBk r 0 γ ∧ sitM r 28 (6, 0, a.2.2.1) ∧ sitB (6, 0, a.2.2.1) ∧ r 38 = 0 ∧ r 0 = a.2.1 5 := by
  obtain ⟨M, hF⟩ := B
  have F := hF hw
  obtain ⟨⟨a1, a2, a3, a4, a5, a6⟩, ⟨⟨b1, b2, b3⟩, b4, b5, b6⟩, ht, hm, h38⟩ := F
  obtain ⟨⟨f0, f1, f2, f3, f4, f5⟩, fm, fs, -⟩ := hI.2 hw
  obtain ⟨n1, n2, lw, lc, l1, l2, l3, l4, l5, l6, l7⟩ := hγ
  have hT := M.kd.1.1
  have hg := hI.1
  have hlen := hg.2.2 hw
  have hi := hg.1
  obtain ⟨-, hcd⟩ := M.2.2.2.2.2 hw
  have hcd2 : ∀ j : Nat, j < a.1.2.2.2.length → r (140 + j) = mTr (a.1.2.2.2.getD j 0) := fun j hj => by rw [e _ (by omega) (by omega)]; exact hcd j hj
  have k0 := n1 0 (by decide) (by decide)
  have k1 := n1 1 (by decide) (by decide)
  have k2 := n1 2 (by decide) (by decide)
  have k3 := n1 3 (by decide) (by decide)
  have k4 := n1 4 (by decide) (by decide)
  have k5 := n1 5 (by decide) (by decide)
  refine ⟨⟨⟨?_, ?_, ?_, ?_, ?_, ?_⟩, fun s s0 s1 => ?_, ⟨?_, ?_, ?_, ?_, ?_, ?_, fun s s0 s1 => ?_⟩, lw, lc, ?_, ?_, l5, l6, l7⟩, ⟨?_, ?_, ?_, ?_, fun m m0 m1 => ?_⟩, ⟨⟨by show (0 : Int) ≤ 6; decide, by show (6 : Int) < 700; decide⟩, fun m m0 m1 => fm.1 m⟩, ?_, ?_⟩
  · rw [e _ (by decide) (by decide), k5]; exact a1
  · rw [e _ (by decide) (by decide), k2]; exact a2
  · rw [e _ (by decide) (by decide), k3]; exact a3
  · rw [e _ (by decide) (by decide), k0]; exact a4
  · rw [e _ (by decide) (by decide), k1]; exact a5
  · rw [e _ (by decide) (by decide), k4]; exact a6
  · rw [show (0 : Int) + 12 + s = 12 + s by omega, show (0 : Int) + 20 + s = 20 + s by omega, e _ (by omega) (by omega), e _ (by omega) (by omega), (n2 s s0 s1).1, (n2 s s0 s1).2]
    exact ht s s0 s1
  · rw [k0]; exact f0
  · rw [k1]; exact f1
  · rw [k2]; exact f2
  · rw [k3]; exact f3
  · rw [k4]; exact f4
  · rw [k5]; omega
  · rw [(n2 s s0 s1).1, (n2 s s0 s1).2]; exact fs s
  · exact law_mLaw (law := 0) l1 l3 (by omega) (by rw [e _ (by decide) (by decide)]; exact b1) (by rw [e _ (by decide) (by decide)]; exact b2) (by rw [e _ (by decide) (by decide)]; exact b3) hcd2
  · exact law_mLaw (law := 1) l2 l4 (by omega) (by rw [e _ (by decide) (by decide)]; exact b4) (by rw [e _ (by decide) (by decide)]; exact b5) (by rw [e _ (by decide) (by decide)]; exact b6) hcd2
  · rw [e _ (by decide) (by decide), h38 28 (by decide)]; rfl
  · rw [e _ (by decide) (by decide), h38 _ (by decide)]; rfl
  · rw [e _ (by decide) (by decide), h38 _ (by decide)]; rfl
  · rw [e _ (by decide) (by decide), h38 _ (by decide)]; rfl
  · rw [show (28 : Int) + 4 + m = 32 + m by omega, e _ (by omega) (by omega)]; exact hm m m0 m1
  · rw [e _ (by decide) (by decide), h38 38 (by decide)]; rfl
  · rw [e _ (by decide) (by decide)]; exact a1
theorem MB.take {c2 : mbCt} {σ : PS} {β : BS} {x : Int} (B : MB c f n T K Pl E (σ, β)) (hg : gd T σ) (M : MR c2 f n T K Pl E (takeP T K Pl x σ)) (F : mrF c c2) : MB c2 f n T K Pl E (takeP T K Pl x σ, β) := ⟨M, fun z => frB.eq (B.2 ((takeNC hg).w z)) (fun j _ hj => F.2.1 j hj)⟩
end
theorem takeP_t {T : Int} {K Pl : Int → Int} {σ : PS} {x : Int} (h : tkP K σ = x) : takeP T K Pl x σ = stepP T σ := by unfold takeP; rw [if_pos h]
theorem takeP_f {T : Int} {K Pl : Int → Int} {σ : PS} {x : Int} (h : ¬ tkP K σ = x) : takeP T K Pl x σ = failP K Pl 2 σ := by unfold takeP; rw [if_neg h]
theorem linesP_stop {T : Int} {K Pl : Int → Int} {b : PS × BS} (h : tkP K b.1 = 201 ∨ tkP K b.1 = 203) : ∀ N, linesP T K Pl N b = b
  | 0 => rfl
  | N + 1 => by unfold linesP; rw [if_pos h]
theorem linesP_go {T : Int} {K Pl : Int → Int} {b : PS × BS} {N : Nat} (h : ¬ (tkP K b.1 = 201 ∨ tkP K b.1 = 203)) : linesP T K Pl (N + 1) b = linesP T K Pl N (lnEnd T K Pl (lineB T K Pl b)) := by rw [linesP, if_neg h]
section
variable (d : Nat) (sh : mbSh) (ct : mbCt) {f K Pl E : Int → Int} {x T : Int} {γ : Bk}
theorem tw_bookN (S : SH sh) (L : LK ct) (t0 : 0 ≤ ct 92 5) (t1 : ct 92 5 ≤ 900) (hx : i32 x) (h : ¬ (0 ≤ x ∧ x ≤ ct 92 5)) : Mt YX12_book (d + 1) [.inr (.inr 92), .inl x] sh sh ct (pI fun r c => r = -3 ∧ c = wr ct 92 0 0) := by
  have La : LK (wr ct 92 0 0) := L.wr rfl
  have h5 : wr ct 92 0 0 92 5 = ct 92 5 := wr_nk (by decide)
  refine Mt.of rfl (Nat.le_of_ble_eq_true rfl) ?_
  show G _ 0 [some (.inr (.inr 92)), some (.inl x), none] [] sh ct
  refine g_aload_n (q := 1) dX12_book_0 rfl rfl ?_
  refine g_iconst (q := 2) dX12_book_1 rfl ?_
  refine g_putI (q := 5) (kI := 0) fX12_1 (by first | assumption | exact S.at _ rfl) dX12_book_2 rfl rfl ?_
  refine g_iload_n (q := 6) dX12_book_5 rfl rfl ?_
  refine g_i2l (q := 7) dX12_book_6 rfl ?_
  refine g_lconst0 (q := 8) dX12_book_7 rfl ?_
  refine g_aload_n (q := 9) dX12_book_8 rfl rfl ?_
  refine g_getI (q := 12) (kI := 5) fX12_88 (by first | assumption | exact S.at _ rfl) dX12_book_9 rfl rfl ?_
  rw [h5]
  refine g_i2l (q := 13) dX12_book_12 rfl ?_
  rw [w32_id (x := x) hx.1 hx.2, w32_id (x := ct 92 5) (by omega) (by omega)]
  refine g_callS (q := 16) lX12_150 mX12_within sX12_within rfl (tw_within d sh _) shLe.rf (rmOk.mk (by omega) (by first | exact shLe.rf | assumption)) (Nat.le_of_ble_eq_true rfl) dX12_book_13 rfl rfl (kI fun r_ c_ hp => ?_)
  obtain ⟨hr, hq⟩ := hp
  replace hr := hr.symm
  replace hq := hq.symm
  subst hr hq
  refine g_if_ne (q := 19) (tg := 22) dX12_book_16 (by decide) rfl (fun c_16 => ?_) (fun c_16 => ?_)
  · have h16 := wbn.mp c_16
    unfold i32 at hx
    unfold w64 at h16
    omega
  · refine g_bipush (q := 21) dX12_book_19 (by decide +kernel) rfl ?_
    refine g_ireturn dX12_book_21 rfl ?_
    exact ⟨_, rfl, rfl, rfl⟩
theorem tw_book (S : SH sh) (L : LK ct) (t1 : ct 92 5 ≤ 900) (h : 0 ≤ x ∧ x ≤ ct 92 5) (hf : tpR ct f x) (hT : TS f x K Pl E T) (hγ : (textP T K Pl).1.2.1 = 0 → bkT γ (textP T K Pl)) : Mt YX12_book (d + 34) [.inr (.inr 92), .inl x] sh sh ct (pI fun r c => (LK c ∧ c 92 5 = 0 ∧ (c 92 13 = (textP T K Pl).1.2.1 ∧ c 92 14 = (if (textP T K Pl).1.2.1 = 0 then -1 else (textP T K Pl).1.2.2.1)) ∧ (((textP T K Pl).1.2.1 ≠ 0 ∧ r = -30 - (textP T K Pl).1.2.1 ∧ c 93 = ct 93) ∨ ((textP T K Pl).1.2.1 = 0 ∧ r = (textP T K Pl).2.1 5 ∧ ∀ pl, MP c γ (sitP (textP T K Pl)) 0 pl))) ∧ (eqBut [92, 93, 96] ct c ∧ ∀ j, 1040 ≤ j → c 93 j = ct 93 j)) := by
  have s96 : shA sh 96 = some (20, 1040) := S.at _ rfl
  have s93 : shA sh 93 = some (20, 3120) := S.at _ rfl
  obtain ⟨hkd, hK2⟩ := hT.kd (by omega)
  have hTB := hkd.1
  have hI := textQ (Pl := Pl) hkd hK2
  generalize hPo : (pI fun r c => (LK c ∧ c 92 5 = 0 ∧ (c 92 13 = (textP T K Pl).1.2.1 ∧ c 92 14 = (if (textP T K Pl).1.2.1 = 0 then -1 else (textP T K Pl).1.2.2.1)) ∧ (((textP T K Pl).1.2.1 ≠ 0 ∧ r = -30 - (textP T K Pl).1.2.1 ∧ c 93 = ct 93) ∨ ((textP T K Pl).1.2.1 = 0 ∧ r = (textP T K Pl).2.1 5 ∧ ∀ pl, MP c γ (sitP (textP T K Pl)) 0 pl))) ∧ (eqBut [92, 93, 96] ct c ∧ ∀ j, 1040 ≤ j → c 93 j = ct 93 j)) = Po
  have A149 : ∀ c, MB c f x T K Pl E (textP T K Pl) → (c 92 5 = 0 ∧ eqBut [92, 96] ct c) → G (mkK YX12_book (d + 34) sh sh Po) 149 [some (.inr (.inr 92)), some (.inl x), none] [] sh c := by
    rintro c B ⟨h5, ec⟩
    have M := B.1
    have L1 := M.1
    have hwb := M.wb
    have h11 := M.w
    have h12 := M.2.2.2.2.1.2.2
    have M2 : MR (wr c 92 13 (textP T K Pl).1.2.1) f x T K Pl E (textP T K Pl).1 := by
      obtain ⟨q0, ⟨q1, q2, q3, q4⟩, qi, ⟨q6, q7, q9, q10⟩, ⟨q11, qw, q12⟩, qc⟩ := M
      have e95 : (wr c 92 13 (textP T K Pl).1.2.1) 95 = c 95 := by funext j; exact wr_na (by decide)
      have e96 : (wr c 92 13 (textP T K Pl).1.2.1) 96 = c 96 := by funext j; exact wr_na (by decide)
      have e : ∀ j, j ≠ 13 → (wr c 92 13 (textP T K Pl).1.2.1) 92 j = c 92 j := fun j hj => wr_nk hj
      unfold MR tpR
      rw [e95, e96, e 8 (by decide), e 6 (by decide), e 7 (by decide), e 9 (by decide), e 10 (by decide), e 11 (by decide), e 12 (by decide)]
      exact ⟨q0.wr rfl, ⟨q1, q2, q3, q4⟩, qi, ⟨q6, q7, q9, q10⟩, ⟨q11, qw, q12⟩, qc⟩
    have L2 := M2.1
    have w13 : (wr c 92 13 (textP T K Pl).1.2.1) 92 13 = (textP T K Pl).1.2.1 := wr_eq
    have w5 : (wr c 92 13 (textP T K Pl).1.2.1) 92 5 = 0 := by rw [wr_nk (by decide)]; exact h5
    have e2 : eqBut [92, 96] ct (wr c 92 13 (textP T K Pl).1.2.1) := ec.tr (eqBut.rf.wr (by decide))
    have B2 : MB (wr c 92 13 (textP T K Pl).1.2.1) f x T K Pl E (textP T K Pl) := ⟨M2, fun z => frB.eq (B.2 z) (fun j _ _ => by rw [wr_na (by decide)])⟩
    have A173 : ∀ v, v = (if (textP T K Pl).1.2.1 = 0 then -1 else (textP T K Pl).1.2.2.1) → G (mkK YX12_book (d + 34) sh sh Po) 173 [some (.inr (.inr 92)), some (.inl x), none] [.inl v, .inr (.inr 92)] sh (wr c 92 13 (textP T K Pl).1.2.1) := by
      intro v hv
      have h11b := M2.w
      generalize wr c 92 13 (textP T K Pl).1.2.1 = c2 at M2 L2 w13 w5 e2 B2 h11b
      have L3 : LK (wr c2 92 14 v) := L2.wr rfl
      have w14 : (wr c2 92 14 v) 92 14 = v := wr_eq
      have w13b : (wr c2 92 14 v) 92 13 = (textP T K Pl).1.2.1 := by rw [wr_nk (by decide)]; exact w13
      have w5b : (wr c2 92 14 v) 92 5 = 0 := by rw [wr_nk (by decide)]; exact w5
      have w11b : (wr c2 92 14 v) 92 11 = (textP T K Pl).1.2.1 := by rw [wr_nk (by decide)]; exact h11b
      have e3 : eqBut [92, 96] ct (wr c2 92 14 v) := e2.tr (eqBut.rf.wr (by decide))
      have e96 : (wr c2 92 14 v) 96 = c2 96 := by funext j; exact wr_na (by decide)
      refine g_putI (q := 176) (kI := 14) fX12_27 (by first | assumption | exact S.at _ rfl) dX12_book_173 rfl rfl ?_
      refine g_aload_n (q := 177) dX12_book_176 rfl rfl ?_
      refine g_getI (q := 180) (kI := 11) fX12_134 (by first | assumption | exact S.at _ rfl) dX12_book_177 rfl rfl ?_
      rw [w11b]
      generalize wr c2 92 14 v = c3 at L3 w14 w13b w5b w11b e3 e96
      have e393 : c3 93 = ct 93 := e3 93 (by decide)
      refine g_if_eq (q := 183) (tg := 191) dX12_book_180 (by decide) rfl (fun c_180 => ?_) (fun c_180 => ?_)
      · have hw := M2.wz.mp c_180
        have hγ2 := hγ hw
        refine g_iconst (q := 192) dX12_book_191 rfl ?_
        refine s_istore_n_3_2 (q := 193) dX12_book_192 rfl rfl rfl ?_
        refine g_for (fun i => [some (.inr (.inr 92)), some (.inl x), some (.inl i)]) (fun i c => 0 ≤ i ∧ LK c ∧ (∀ j, 0 ≤ j → j < i → c 93 j = c3 96 j) ∧ (∀ j, ¬ (0 ≤ j ∧ j < i) → c 93 j = ct 93 j) ∧ eqBut [93] c3 c) 1040 ?_ ?_ (i := 0) (by omega) ⟨by omega, L3, fun j _ _ => by omega, fun j _ => by rw [e393], eqBut.rf⟩ (by simp [lsSub])
        · rintro i c4 hi ⟨i0, L4, i1, i2, i3⟩ k
          have e496 : c4 96 = c3 96 := i3 96 (by decide)
          refine g_iload_n (q := 194) dX12_book_193 rfl rfl ?_
          refine g_sipush (q := 197) dX12_book_194 (by decide +kernel) rfl ?_
          refine g_icmp_ge (q := 200) (tg := 218) dX12_book_197 (by decide) rfl (fun c_197 => ?_) (fun c_197 => ?_)
          · exact absurd c_197 (by rw [w32_id (x := i) (by omega) (by omega), show w32 1040 = 1040 from rfl]; omega)
          · refine g_aload_n (q := 201) dX12_book_200 rfl rfl ?_
            refine g_getA (q := 204) (kI := 1) fX12_13 (by first | assumption | exact S.at _ rfl) dX12_book_201 rfl rfl (by first | assumption | exact L.at _ _ rfl | exact LK.at (by assumption) _ _ rfl | ((repeat first | rewrite [wr_na (by decide)] | rewrite [wr_nk (by decide)] | rewrite [wa_na (by decide)]); first | assumption | exact LK.at (by assumption) _ _ rfl) | exact rfl) ?_
            refine g_iload_n (q := 205) dX12_book_204 rfl rfl ?_
            refine g_aload_n (q := 206) dX12_book_205 rfl rfl ?_
            refine g_getA (q := 209) (kI := 4) fX12_24 (by first | assumption | exact S.at _ rfl) dX12_book_206 rfl rfl (by first | assumption | exact L.at _ _ rfl | exact LK.at (by assumption) _ _ rfl | ((repeat first | rewrite [wr_na (by decide)] | rewrite [wr_nk (by decide)] | rewrite [wa_na (by decide)]); first | assumption | exact LK.at (by assumption) _ _ rfl) | exact rfl) ?_
            refine g_iload_n (q := 210) dX12_book_209 rfl rfl ?_
            refine g_iaload (q := 211) (by first | assumption | exact S.at _ rfl) (by omega) (by omega) (by omega) dX12_book_210 rfl ?_
            refine g_iastore (q := 212) (by first | assumption | exact S.at _ rfl) (by omega) (by omega) (by omega) dX12_book_211 rfl ?_
            refine s_iinc_3_2 (q := 215) dX12_book_212 rfl rfl rfl ?_
            refine g_goto (q := 193) dX12_book_215 (by decide) ?_
            refine k _ _ (by simp [lsSub]) ⟨by omega, L4.wr (lkF_none rfl _), fun j j0 j1 => ?_, fun j hj => ?_, i3.tr (eqBut.rf.wr (by decide))⟩
            · by_cases h : j = i
              · rw [h, wr_eq, e496]
              · rw [wr_nk h]; exact i1 j j0 (by omega)
            · rw [wr_nk (by omega)]; exact i2 j (by omega)
        · rintro c4 ⟨i0, L4, i1, i2, i3⟩
          obtain ⟨b1, b2, b3, b4, b5⟩ := B2.bk (r := c4 93) hI hw hγ2 (fun j j0 j1 => by rw [i1 j j0 j1, e96])
          refine g_iload_n (q := 194) dX12_book_193 rfl rfl ?_
          refine g_sipush (q := 197) dX12_book_194 (by decide +kernel) rfl ?_
          refine g_icmp_ge (q := 200) (tg := 218) dX12_book_197 (by decide) rfl (fun c_197 => ?_) (fun c_197 => ?_)
          · refine g_aload_n (q := 219) dX12_book_218 rfl rfl ?_
            refine g_callV (q := 222) lX12_213 mX12_adjourns nX12_adjourns rfl (tw_adjourns 0 sh _ S (β := γ) (s := (6, 0, (textP T K Pl).2.2.1)) ⟨L4, b1, b2, b3⟩) (by first | assumption | exact S.at _ rfl) rfl rfl shLe.rf (rmOk.mk (by omega) (by first | exact shLe.rf | assumption)) (Nat.le_of_ble_eq_true rfl) dX12_book_219 rfl rfl (kN fun c5 hp => ?_)
            obtain ⟨M5, fr5, e5⟩ := hp
            have L5 := M5.1
            have h50 : c5 93 0 = (textP T K Pl).2.1 5 := by rw [fr5 0 (by omega)]; exact b5
            refine g_aload_n (q := 223) dX12_book_222 rfl rfl ?_
            refine g_getA (q := 226) (kI := 1) fX12_13 (by first | assumption | exact S.at _ rfl) dX12_book_223 rfl rfl (by first | assumption | exact L.at _ _ rfl | exact LK.at (by assumption) _ _ rfl | ((repeat first | rewrite [wr_na (by decide)] | rewrite [wr_nk (by decide)] | rewrite [wa_na (by decide)]); first | assumption | exact LK.at (by assumption) _ _ rfl) | exact rfl) ?_
            refine g_iconst (q := 227) dX12_book_226 rfl ?_
            refine g_iaload (q := 228) (by first | assumption | exact S.at _ rfl) (by omega) (by omega) (by omega) dX12_book_227 rfl ?_
            rw [h50]
            refine g_ireturn dX12_book_228 rfl ?_
            have hs : adjS γ (6, 0, (textP T K Pl).2.2.1) = sitP (textP T K Pl) := by
              unfold adjS sitP
              rw [hγ2.1 0 (by decide) (by decide), hγ2.1 1 (by decide) (by decide)]
            rw [hs] at M5
            have e592 : c5 92 = c3 92 := by rw [e5 92 (by decide), i3 92 (by decide)]
            rw [← hPo]
            refine ⟨_, rfl, ⟨L5, by rw [e592]; exact w5b, ⟨by rw [e592]; exact w13b, by rw [e592, w14]; exact hv⟩, Or.inr ⟨hw, rfl, fun pl => ⟨M5, by rw [fr5 38 (by omega)]; exact b4, by decide, fun k k0 k1 => by omega⟩⟩⟩, fun y hy => ?_, fun j hj => ?_⟩
            · simp at hy
              rw [e5 y (by simp; omega), i3 y (by simp; omega), e3 y (by simp; omega)]
            · rw [fr5 j (by omega)]
              exact i2 j (by omega)
          · exact absurd c_197 (Int.lt_irrefl _)
      · have hw : ¬ (textP T K Pl).1.2.1 = 0 := fun z => c_180 (M2.wz.mpr z)
        refine g_bipush (q := 185) dX12_book_183 (by decide +kernel) rfl ?_
        refine g_aload_n (q := 186) dX12_book_185 rfl rfl ?_
        refine g_getI (q := 189) (kI := 11) fX12_134 (by first | assumption | exact S.at _ rfl) dX12_book_186 rfl rfl ?_
        rw [w11b]
        refine g_isub (q := 190) dX12_book_189 rfl ?_
        refine g_ireturn dX12_book_190 rfl ?_
        rw [← hPo]
        exact ⟨_, rfl, ⟨L3, w5b, ⟨w13b, by rw [w14]; exact hv⟩, Or.inl ⟨hw, rfl, e393⟩⟩, e3.mono (by simp), fun j _ => by rw [e393]⟩
    refine g_aload_n (q := 150) dX12_book_149 rfl rfl ?_
    refine g_aload_n (q := 151) dX12_book_150 rfl rfl ?_
    refine g_getI (q := 154) (kI := 11) fX12_134 (by first | assumption | exact S.at _ rfl) dX12_book_151 rfl rfl ?_
    rw [h11]
    refine g_putI (q := 157) (kI := 13) fX12_210 (by first | assumption | exact S.at _ rfl) dX12_book_154 rfl rfl ?_
    refine g_aload_n (q := 158) dX12_book_157 rfl rfl ?_
    refine g_aload_n (q := 159) dX12_book_158 rfl rfl ?_
    refine g_getI (q := 162) (kI := 11) fX12_134 (by first | assumption | exact S.at _ rfl) dX12_book_159 rfl rfl ?_
    rw [wr_nk (by decide), h11]
    refine g_if_ne (q := 165) (tg := 169) dX12_book_162 (by decide) rfl (fun c_162 => ?_) (fun c_162 => ?_)
    · have hw : ¬ (textP T K Pl).1.2.1 = 0 := fun z => c_162 (M.wz.mpr z)
      refine g_aload_n (q := 170) dX12_book_169 rfl rfl ?_
      refine g_getI (q := 173) (kI := 12) fX12_137 (by first | assumption | exact S.at _ rfl) dX12_book_170 rfl rfl ?_
      rw [wr_nk (by decide), h12 hw]
      exact A173 _ (by rw [if_neg hw])
    · have hw : (textP T K Pl).1.2.1 = 0 := M.wz.mp c_162
      refine g_iconst (q := 166) dX12_book_165 rfl ?_
      refine g_goto (q := 173) dX12_book_166 (by decide) ?_
      exact A173 _ (by rw [if_pos hw])
  have A122 : ∀ c, MB c f x T K Pl E (firstP T K Pl) → (c 92 5 = 0 ∧ eqBut [92, 96] ct c) → G (mkK YX12_book (d + 34) sh sh Po) 122 [some (.inr (.inr 92)), some (.inl x), none] [] sh c := by
    intro c B0 e0
    refine g_wh (α := PS × BS) [some (.inr (.inr 92)), some (.inl x), none] (fun N b c => MB c f x T K Pl E b ∧ bkRi T b ∧ (c 92 5 = 0 ∧ eqBut [92, 96] ct c) ∧ (b.1.2.1 = 0 → T ≤ b.1.1 + N) ∧ linesP T K Pl N b = textP T K Pl) ?_ T.toNat (firstP T K Pl) _ _ ⟨B0, firstQ hkd, e0, fun _ => by have := (firstQ (Pl := Pl) hkd).1.1.1; omega, rfl⟩ (lsSub_rf _)
    rintro N b c ⟨B, hB, ec, hN, hb⟩ kk
    have M := B.1
    have L1 := M.1
    have i24 := kR_iff M.kv (x := 24) (y := 201) (by decide)
    have hkb := (kR_23 M.kv).2
    refine g_aload_n (q := 123) dX12_book_122 rfl rfl ?_
    refine g_getI (q := 126) (kI := 11) fX12_134 (by first | assumption | exact S.at _ rfl) dX12_book_123 rfl rfl ?_
    rw [M.w]
    refine g_if_ne (q := 129) (tg := 149) dX12_book_126 (by decide) rfl (fun c_126 => ?_) (fun c_126 => ?_)
    · have hw : ¬ b.1.2.1 = 0 := fun z => c_126 (M.wz.mpr z)
      rw [linesP_stop (Or.inr (tk_stop hw))] at hb
      subst hb
      exact A149 c B ec
    · have hw : b.1.2.1 = 0 := M.wz.mp c_126
      have hk := tk_go (K := K) hw
      obtain ⟨N', rfl⟩ : ∃ N', N = N' + 1 := ⟨N - 1, by have := hN hw; have := hB.1.1.2; omega⟩
      refine g_aload_n (q := 130) dX12_book_129 rfl rfl ?_
      refine g_getI (q := 133) (kI := 9) fX12_116 (by first | assumption | exact S.at _ rfl) dX12_book_130 rfl rfl ?_
      rw [M.ki]
      refine g_bipush (q := 135) dX12_book_133 (by decide +kernel) rfl ?_
      refine g_icmp_eq (q := 138) (tg := 149) dX12_book_135 (by decide) rfl (fun c_135 => ?_) (fun c_135 => ?_)
      · rw [w32_id (x := kR (K b.1.1)) (by omega) (by omega), show w32 24 = 24 from rfl] at c_135
        rw [linesP_stop (Or.inl (by rw [hk]; exact i24.mp c_135))] at hb
        subst hb
        exact A149 c B ec
      · rw [w32_id (x := kR (K b.1.1)) (by omega) (by omega), show w32 24 = 24 from rfl] at c_135
        obtain ⟨q1, q2, -, -⟩ := lineQ (Pl := Pl) hkd hK2 hB
        obtain ⟨r1, r2, -, r4⟩ := endQ (Pl := Pl) hkd q1
        have hn : ¬ (tkP K b.1 = 201 ∨ tkP K b.1 = 203) := by
          rw [hk]
          have := (hkd.2.2 b.1.1 hB.1.1.1 hB.1.1.2).2.2
          rintro (h | h)
          · exact c_135 (i24.mpr h)
          · exact this h
        refine g_aload_n (q := 139) dX12_book_138 rfl rfl ?_
        refine g_callV (q := 142) lX12_207 mX12_readLine nX12_readLine rfl (tw_readLine d sh _ S B hB) (by first | assumption | exact S.at _ rfl) rfl rfl shLe.rf (rmOk.mk (by omega) (by first | exact shLe.rf | assumption)) (Nat.le_of_ble_eq_true rfl) dX12_book_139 rfl rfl (kN fun c1 hp => ?_)
        obtain ⟨B1, f1⟩ := hp
        refine g_aload_n (q := 143) dX12_book_142 rfl rfl ?_
        refine g_callV (q := 146) lX12_204 mX12_ends nX12_ends rfl (tw_ends 0 sh _ S B1 q1.1) (by first | assumption | exact S.at _ rfl) rfl rfl shLe.rf (rmOk.mk (by omega) (by first | exact shLe.rf | assumption)) (Nat.le_of_ble_eq_true rfl) dX12_book_143 rfl rfl (kN fun c2 hp => ?_)
        obtain ⟨B2, f2⟩ := hp
        have f12 := f1.tr f2
        refine g_goto (q := 122) dX12_book_146 (by decide) ?_
        refine kk N' (lnEnd T K Pl (lineB T K Pl b)) _ _ (by omega) (lsSub_rf _) ⟨B2, r1, ⟨by rw [f12.1 5 (by decide) (by decide) (by decide) (by decide) (by decide) (by decide) (by decide)]; exact ec.1, ec.2.tr f12.2⟩, fun z => ?_, ?_⟩
        · have := (r4 z).2
          have := hN hw
          omega
        · rw [← hb, linesP_go hn]
  have hton := tonNC (Pl := Pl) hkd
  have hhea := heaNC (Pl := Pl) hkd
  have gd0' := gd0 (T := T) (K := K) hkd
  have n128 := takeNC (K := K) (Pl := Pl) (x := 128) gd0'
  have n129 := takeNC (K := K) (Pl := Pl) (x := 129) n128.1
  have n130 := takeNC (K := K) (Pl := Pl) (x := 130) hton.1.1
  have mf5 : ∀ {c c2 : mbCt}, (c 92 5 = 0 ∧ eqBut [92, 96] ct c) → mlF c c2 → (c2 92 5 = 0 ∧ eqBut [92, 96] ct c2) := fun h g => ⟨by rw [g.1 5 (by decide) (by decide) (by decide) (by decide) (by decide) (by decide) (by decide)]; exact h.1, h.2.tr g.2⟩
  have A105 : ∀ c, MB c f x T K Pl E (takeP T K Pl 130 (tonP T K Pl).2, upP (fun _ => 0) 0 (tonP T K Pl).1, (fun _ => 0), (fun _ => 0), (fun _ => 0)) → (c 92 5 = 0 ∧ eqBut [92, 96] ct c) → G (mkK YX12_book (d + 34) sh sh Po) 105 [some (.inr (.inr 92)), some (.inl x), none] [] sh c := by
    intro c B ec
    have L1 := B.1.1
    refine g_aload_n (q := 106) dX12_book_105 rfl rfl ?_
    refine g_getA (q := 109) (kI := 4) fX12_24 (by first | assumption | exact S.at _ rfl) dX12_book_106 rfl rfl (by first | assumption | exact L.at _ _ rfl | exact LK.at (by assumption) _ _ rfl | ((repeat first | rewrite [wr_na (by decide)] | rewrite [wr_nk (by decide)] | rewrite [wa_na (by decide)]); first | assumption | exact LK.at (by assumption) _ _ rfl) | exact rfl) ?_
    refine g_iconst (q := 110) dX12_book_109 rfl ?_
    refine g_aload_n (q := 111) dX12_book_110 rfl rfl ?_
    refine g_iconst (q := 112) dX12_book_111 rfl ?_
    refine g_bipush (q := 114) dX12_book_112 (by decide +kernel) rfl ?_
    refine g_callV (q := 117) lX12_187 mX12_takes nX12_takes rfl (tw_takes 0 sh _ S B.1 n130.1 (most := 9) (by decide)) (by first | assumption | exact S.at _ rfl) rfl rfl shLe.rf (rmOk.mk (by omega) (by first | exact shLe.rf | assumption)) (Nat.le_of_ble_eq_true rfl) dX12_book_114 rfl rfl (kI fun v c1 hp => ?_)
    obtain ⟨hv, M1, f1⟩ := hp
    have L2 := M1.1
    have B1 : MB (wr c1 96 4 v) f x T K Pl E ((heaP T K Pl).2, upP (upP (fun _ => 0) 0 (tonP T K Pl).1) 1 (heaP T K Pl).1, (fun _ => 0), (fun _ => 0), (fun _ => 0)) := by
      refine ⟨M1.w96 (by decide), fun z => ?_⟩
      have e : v = (heaP T K Pl).1 := hv z
      rw [e]
      have hw : (takeP T K Pl 130 (tonP T K Pl).2).2.1 = 0 := (numNC (K := K) (Pl := Pl) (most := 9) n130.1).1.w z
      exact (frB.eq (B.2 hw) (fun j _ hj => f1.2.1 j hj)).nu (by decide)
    refine g_iastore (q := 118) (by first | assumption | exact S.at _ rfl) (by omega) (by omega) (by omega) dX12_book_117 rfl ?_
    refine g_aload_n (q := 119) dX12_book_118 rfl rfl ?_
    refine g_callV (q := 122) lX12_204 mX12_ends nX12_ends rfl (tw_ends 0 sh _ S B1 hhea.1.1) (by first | assumption | exact S.at _ rfl) rfl rfl shLe.rf (rmOk.mk (by omega) (by first | exact shLe.rf | assumption)) (Nat.le_of_ble_eq_true rfl) dX12_book_119 rfl rfl (kN fun c2 hp => ?_)
    exact A122 c2 hp.1 (mf5 ec ((f1.ml.tr mlF.w96).tr hp.2))
  have A92 : ∀ c, MB c f x T K Pl E ((tonP T K Pl).2, upP (fun _ => 0) 0 (tonP T K Pl).1, (fun _ => 0), (fun _ => 0), (fun _ => 0)) → (c 92 5 = 0 ∧ eqBut [92, 96] ct c) → G (mkK YX12_book (d + 34) sh sh Po) 92 [some (.inr (.inr 92)), some (.inl x), none] [] sh c := by
    intro c B ec
    refine g_aload_n (q := 93) dX12_book_92 rfl rfl ?_
    refine g_iconst (q := 94) dX12_book_93 rfl ?_
    refine g_callV (q := 97) lX12_169 mX12_eats nX12_eats rfl (tw_eats 0 sh _ S B.1 hton.1.1 (x := 2) (y := 130) (by decide) (by decide)) (by first | assumption | exact S.at _ rfl) rfl rfl shLe.rf (rmOk.mk (by omega) (by first | exact shLe.rf | assumption)) (Nat.le_of_ble_eq_true rfl) dX12_book_94 rfl rfl (kI fun v c1 hp => ?_)
    obtain ⟨hp, f1⟩ := hp
    rcases hp with ⟨ht, rfl, M1⟩ | ⟨ht, rfl, M1⟩
    · refine g_if_ne (q := 100) (tg := 105) dX12_book_97 (by decide) rfl (fun c_97 => ?_) (fun c_97 => ?_)
      · exact A105 _ (B.take hton.1.1 (by rw [takeP_t ht]; exact M1) f1) (mf5 ec f1.ml)
      · exact absurd c_97 (by decide)
    · refine g_if_ne (q := 100) (tg := 105) dX12_book_97 (by decide) rfl (fun c_97 => ?_) (fun c_97 => ?_)
      · exact absurd rfl c_97
      · refine g_aload_n (q := 101) dX12_book_100 rfl rfl ?_
        refine g_iconst (q := 102) dX12_book_101 rfl ?_
        refine g_callV (q := 105) lX12_146 mX12_fails nX12_fails rfl (tw_fails 0 sh _ S M1 (k := 2) (by decide)) (by first | assumption | exact S.at _ rfl) rfl rfl shLe.rf (rmOk.mk (by omega) (by first | exact shLe.rf | assumption)) (Nat.le_of_ble_eq_true rfl) dX12_book_102 rfl rfl (kN fun c2 hp => ?_)
        exact A105 _ (B.take hton.1.1 (by rw [takeP_f ht]; exact hp.1) (f1.tr hp.2)) (mf5 ec (f1.tr hp.2).ml)
  have A79 : ∀ c, MB c f x T K Pl E (takeP T K Pl 129 (takeP T K Pl 128 (0, 0, 0, [])), (fun _ => 0), (fun _ => 0), (fun _ => 0), (fun _ => 0)) → (c 92 5 = 0 ∧ eqBut [92, 96] ct c) → G (mkK YX12_book (d + 34) sh sh Po) 79 [some (.inr (.inr 92)), some (.inl x), none] [] sh c := by
    intro c B ec
    have L1 := B.1.1
    refine g_aload_n (q := 80) dX12_book_79 rfl rfl ?_
    refine g_getA (q := 83) (kI := 4) fX12_24 (by first | assumption | exact S.at _ rfl) dX12_book_80 rfl rfl (by first | assumption | exact L.at _ _ rfl | exact LK.at (by assumption) _ _ rfl | ((repeat first | rewrite [wr_na (by decide)] | rewrite [wr_nk (by decide)] | rewrite [wa_na (by decide)]); first | assumption | exact LK.at (by assumption) _ _ rfl) | exact rfl) ?_
    refine g_iconst (q := 84) dX12_book_83 rfl ?_
    refine g_aload_n (q := 85) dX12_book_84 rfl rfl ?_
    refine g_iconst (q := 86) dX12_book_85 rfl ?_
    refine g_bipush (q := 88) dX12_book_86 (by decide +kernel) rfl ?_
    refine g_callV (q := 91) lX12_187 mX12_takes nX12_takes rfl (tw_takes 0 sh _ S B.1 n129.1 (most := 9) (by decide)) (by first | assumption | exact S.at _ rfl) rfl rfl shLe.rf (rmOk.mk (by omega) (by first | exact shLe.rf | assumption)) (Nat.le_of_ble_eq_true rfl) dX12_book_88 rfl rfl (kI fun v c1 hp => ?_)
    obtain ⟨hv, M1, f1⟩ := hp
    have L2 := M1.1
    have B1 : MB (wr c1 96 3 v) f x T K Pl E ((tonP T K Pl).2, upP (fun _ => 0) 0 (tonP T K Pl).1, (fun _ => 0), (fun _ => 0), (fun _ => 0)) := by
      refine ⟨M1.w96 (by decide), fun z => ?_⟩
      have e : v = (tonP T K Pl).1 := hv z
      rw [e]
      have hw := (numNC (K := K) (Pl := Pl) (most := 9) n129.1).1.w z
      exact (frB.eq (B.2 hw) (fun j _ hj => f1.2.1 j hj)).nu (by decide)
    refine g_iastore (q := 92) (by first | assumption | exact S.at _ rfl) (by omega) (by omega) (by omega) dX12_book_91 rfl ?_
    exact A92 _ B1 (mf5 ec (f1.ml.tr mlF.w96))
  have A66 : ∀ c, MB c f x T K Pl E (takeP T K Pl 128 (0, 0, 0, []), (fun _ => 0), (fun _ => 0), (fun _ => 0), (fun _ => 0)) → (c 92 5 = 0 ∧ eqBut [92, 96] ct c) → G (mkK YX12_book (d + 34) sh sh Po) 66 [some (.inr (.inr 92)), some (.inl x), none] [] sh c := by
    intro c B ec
    refine g_aload_n (q := 67) dX12_book_66 rfl rfl ?_
    refine g_iconst (q := 68) dX12_book_67 rfl ?_
    refine g_callV (q := 71) lX12_169 mX12_eats nX12_eats rfl (tw_eats 0 sh _ S B.1 n128.1 (x := 1) (y := 129) (by decide) (by decide)) (by first | assumption | exact S.at _ rfl) rfl rfl shLe.rf (rmOk.mk (by omega) (by first | exact shLe.rf | assumption)) (Nat.le_of_ble_eq_true rfl) dX12_book_68 rfl rfl (kI fun v c1 hp => ?_)
    obtain ⟨hp, f1⟩ := hp
    rcases hp with ⟨ht, rfl, M1⟩ | ⟨ht, rfl, M1⟩
    · refine g_if_ne (q := 74) (tg := 79) dX12_book_71 (by decide) rfl (fun c_71 => ?_) (fun c_71 => ?_)
      · exact A79 _ (B.take n128.1 (by rw [takeP_t ht]; exact M1) f1) (mf5 ec f1.ml)
      · exact absurd c_71 (by decide)
    · refine g_if_ne (q := 74) (tg := 79) dX12_book_71 (by decide) rfl (fun c_71 => ?_) (fun c_71 => ?_)
      · exact absurd rfl c_71
      · refine g_aload_n (q := 75) dX12_book_74 rfl rfl ?_
        refine g_iconst (q := 76) dX12_book_75 rfl ?_
        refine g_callV (q := 79) lX12_146 mX12_fails nX12_fails rfl (tw_fails 0 sh _ S M1 (k := 2) (by decide)) (by first | assumption | exact S.at _ rfl) rfl rfl shLe.rf (rmOk.mk (by omega) (by first | exact shLe.rf | assumption)) (Nat.le_of_ble_eq_true rfl) dX12_book_76 rfl rfl (kN fun c2 hp => ?_)
        exact A79 _ (B.take n128.1 (by rw [takeP_f ht]; exact hp.1) (f1.tr hp.2)) (mf5 ec (f1.tr hp.2).ml)
  have A53 : ∀ c, MB c f x T K Pl E ((0, 0, 0, []), (fun _ => 0), (fun _ => 0), (fun _ => 0), (fun _ => 0)) → (c 92 5 = 0 ∧ eqBut [92, 96] ct c) → G (mkK YX12_book (d + 34) sh sh Po) 53 [some (.inr (.inr 92)), some (.inl x), none] [] sh c := by
    intro c B ec
    refine g_aload_n (q := 54) dX12_book_53 rfl rfl ?_
    refine g_iconst (q := 55) dX12_book_54 rfl ?_
    refine g_callV (q := 58) lX12_169 mX12_eats nX12_eats rfl (tw_eats 0 sh _ S B.1 gd0' (x := 0) (y := 128) (by decide) (by decide)) (by first | assumption | exact S.at _ rfl) rfl rfl shLe.rf (rmOk.mk (by omega) (by first | exact shLe.rf | assumption)) (Nat.le_of_ble_eq_true rfl) dX12_book_55 rfl rfl (kI fun v c1 hp => ?_)
    obtain ⟨hp, f1⟩ := hp
    rcases hp with ⟨ht, rfl, M1⟩ | ⟨ht, rfl, M1⟩
    · refine g_if_ne (q := 61) (tg := 66) dX12_book_58 (by decide) rfl (fun c_58 => ?_) (fun c_58 => ?_)
      · exact A66 _ (B.take gd0' (by rw [takeP_t ht]; exact M1) f1) (mf5 ec f1.ml)
      · exact absurd c_58 (by decide)
    · refine g_if_ne (q := 61) (tg := 66) dX12_book_58 (by decide) rfl (fun c_58 => ?_) (fun c_58 => ?_)
      · exact absurd rfl c_58
      · refine g_aload_n (q := 62) dX12_book_61 rfl rfl ?_
        refine g_iconst (q := 63) dX12_book_62 rfl ?_
        refine g_callV (q := 66) lX12_146 mX12_fails nX12_fails rfl (tw_fails 0 sh _ S M1 (k := 2) (by decide)) (by first | assumption | exact S.at _ rfl) rfl rfl shLe.rf (rmOk.mk (by omega) (by first | exact shLe.rf | assumption)) (Nat.le_of_ble_eq_true rfl) dX12_book_63 rfl rfl (kN fun c2 hp => ?_)
        exact A66 _ (B.take gd0' (by rw [takeP_f ht]; exact hp.1) (f1.tr hp.2)) (mf5 ec (f1.tr hp.2).ml)
  have La : LK (wr ct 92 0 0) := L.wr rfl
  have h5 : wr ct 92 0 0 92 5 = ct 92 5 := wr_nk (by decide)
  refine Mt.of rfl (Nat.le_of_ble_eq_true rfl) ?_
  show G _ 0 [some (.inr (.inr 92)), some (.inl x), none] [] sh ct
  refine g_aload_n (q := 1) dX12_book_0 rfl rfl ?_
  refine g_iconst (q := 2) dX12_book_1 rfl ?_
  refine g_putI (q := 5) (kI := 0) fX12_1 (by first | assumption | exact S.at _ rfl) dX12_book_2 rfl rfl ?_
  refine g_iload_n (q := 6) dX12_book_5 rfl rfl ?_
  refine g_i2l (q := 7) dX12_book_6 rfl ?_
  refine g_lconst0 (q := 8) dX12_book_7 rfl ?_
  refine g_aload_n (q := 9) dX12_book_8 rfl rfl ?_
  refine g_getI (q := 12) (kI := 5) fX12_88 (by first | assumption | exact S.at _ rfl) dX12_book_9 rfl rfl ?_
  rw [h5]
  refine g_i2l (q := 13) dX12_book_12 rfl ?_
  rw [w32_id (x := x) (by omega) (by omega), w32_id (x := ct 92 5) (by omega) (by omega)]
  refine g_callS (q := 16) lX12_150 mX12_within sX12_within rfl (tw_within 0 sh _) shLe.rf (rmOk.mk (by omega) (by first | exact shLe.rf | assumption)) (Nat.le_of_ble_eq_true rfl) dX12_book_13 rfl rfl (kI fun r_ c_ hp => ?_)
  obtain ⟨hr, hq⟩ := hp
  replace hr := hr.symm
  replace hq := hq.symm
  subst hr hq
  refine g_if_ne (q := 19) (tg := 22) dX12_book_16 (by decide) rfl (fun c_16 => ?_) (fun c_16 => ?_)
  · refine g_aload_n (q := 23) dX12_book_22 rfl rfl ?_
    refine g_iload_n (q := 24) dX12_book_23 rfl rfl ?_
    refine g_putI (q := 27) (kI := 8) fX12_91 (by first | assumption | exact S.at _ rfl) dX12_book_24 rfl rfl ?_
    refine g_aload_n (q := 28) dX12_book_27 rfl rfl ?_
    refine g_iconst (q := 29) dX12_book_28 rfl ?_
    refine g_putI (q := 32) (kI := 5) fX12_88 (by first | assumption | exact S.at _ rfl) dX12_book_29 rfl rfl ?_
    refine g_aload_n (q := 33) dX12_book_32 rfl rfl ?_
    refine g_iconst (q := 34) dX12_book_33 rfl ?_
    refine g_putI (q := 37) (kI := 7) fX12_109 (by first | assumption | exact S.at _ rfl) dX12_book_34 rfl rfl ?_
    refine g_aload_n (q := 38) dX12_book_37 rfl rfl ?_
    refine g_iconst (q := 39) dX12_book_38 rfl ?_
    refine g_putI (q := 42) (kI := 11) fX12_134 (by first | assumption | exact S.at _ rfl) dX12_book_39 rfl rfl ?_
    have L1 : LK (wr (wr (wr (wr (wr ct 92 0 0) 92 8 x) 92 5 0) 92 7 0) 92 11 0) := ((((L.wr rfl).wr rfl).wr rfl).wr rfl).wr rfl
    have w5 : (wr (wr (wr (wr (wr ct 92 0 0) 92 8 x) 92 5 0) 92 7 0) 92 11 0) 92 5 = 0 := by rw [wr_nk (by decide), wr_nk (by decide), wr_eq]
    have w7 : (wr (wr (wr (wr (wr ct 92 0 0) 92 8 x) 92 5 0) 92 7 0) 92 11 0) 92 7 = 0 := by rw [wr_nk (by decide), wr_eq]
    have w8 : (wr (wr (wr (wr (wr ct 92 0 0) 92 8 x) 92 5 0) 92 7 0) 92 11 0) 92 8 = x := by rw [wr_nk (by decide), wr_nk (by decide), wr_nk (by decide), wr_eq]
    have w11 : (wr (wr (wr (wr (wr ct 92 0 0) 92 8 x) 92 5 0) 92 7 0) 92 11 0) 92 11 = 0 := wr_eq
    have e1 : ∀ y, y ≠ 92 → (wr (wr (wr (wr (wr ct 92 0 0) 92 8 x) 92 5 0) 92 7 0) 92 11 0) y = ct y := fun y hy => by funext j; rw [wr_na hy, wr_na hy, wr_na hy, wr_na hy, wr_na hy]
    generalize wr (wr (wr (wr (wr ct 92 0 0) 92 8 x) 92 5 0) 92 7 0) 92 11 0 = c1 at L1 w5 w7 w8 w11 e1
    refine g_aload_n (q := 43) dX12_book_42 rfl rfl ?_
    refine g_getA (q := 46) (kI := 4) fX12_24 (by first | assumption | exact S.at _ rfl) dX12_book_43 rfl rfl (by first | assumption | exact L.at _ _ rfl | exact LK.at (by assumption) _ _ rfl | ((repeat first | rewrite [wr_na (by decide)] | rewrite [wr_nk (by decide)] | rewrite [wa_na (by decide)]); first | assumption | exact LK.at (by assumption) _ _ rfl) | exact rfl) ?_
    refine g_callS (q := 49) lX12_84 mX12_plain sX12_plain rfl (tw_plain 0 sh _ s96 (by decide) (by decide)) shLe.rf (rmOk.mk (by omega) (by first | exact shLe.rf | assumption)) (Nat.le_of_ble_eq_true rfl) dX12_book_46 rfl rfl (kN fun c2 hp => ?_)
    obtain ⟨p1, p2, e2⟩ := hp
    have z2 : ∀ y, y ≠ 96 → c2 y = c1 y := fun y hy => e2 y (by simp; omega)
    have L2 : LK c2 := by
      intro y k v hv
      by_cases hy : y = 96
      · rw [hy, lkF_none rfl k] at hv; cases hv
      · rw [z2 y hy]; exact L1 _ _ _ hv
    have tok0 := hT.2.2.1 0 (by decide) (by omega)
    rw [hT.1] at tok0
    have hf2 : tpR c2 f x := fun j j0 j1 => by rw [z2 95 (by decide), e1 95 (by decide)]; exact hf j j0 j1
    have h92 : c2 92 = c1 92 := z2 92 (by decide)
    refine g_aload_n (q := 50) dX12_book_49 rfl rfl ?_
    refine g_callV (q := 53) lX12_143 mX12_next nX12_next rfl (tw_next 0 sh _ S L2 (p := 0) (n := x) (by rw [h92]; exact w7) (by rw [h92]; exact w8) (by decide) (by omega) hf2 tok0) (by first | assumption | exact S.at _ rfl) rfl rfl shLe.rf (rmOk.mk (by omega) (by first | exact shLe.rf | assumption)) (Nat.le_of_ble_eq_true rfl) dX12_book_50 rfl rfl (kN fun c3 hp => ?_)
    obtain ⟨⟨hk, hn⟩, N⟩ := hp
    have F : mrF c2 c3 := ⟨fun j j6 j7 j9 j10 _ _ => N.2.2.1 j j6 j7 j9 j10, fun j _ => by rw [N.2.2.2 96 (by decide)], N.2.2.2.mono (by simp)⟩
    have e96 : c3 96 = c2 96 := N.2.2.2 96 (by decide)
    have m8 : c3 92 8 = x := by rw [N.2.2.1 8 (by decide) (by decide) (by decide) (by decide), h92]; exact w8
    have m11 : c3 92 11 = 0 := by rw [N.2.2.1 11 (by decide) (by decide) (by decide) (by decide), h92]; exact w11
    have m5 : c3 92 5 = 0 := by rw [N.2.2.1 5 (by decide) (by decide) (by decide) (by decide), h92]; exact w5
    have M3 : MR c3 f x T K Pl E (0, 0, 0, []) := ⟨F.L L2, ⟨m8, by omega, fun j j0 j1 => by rw [N.2.2.2 95 (by decide)]; exact hf2 j j0 j1, hT⟩, ⟨by decide, by dsimp only; omega⟩, ⟨N.1, N.2.1, hk, hn⟩, ⟨m11, by decide, fun z => absurd rfl z⟩, fun _ => ⟨by rw [e96, p1 139 (by decide) (by decide)]; rfl, fun j hj => absurd hj (Nat.not_lt_zero _)⟩⟩
    have q : ∀ j, 0 ≤ j → j < 1040 → j ≠ 30 → c3 96 j = 0 := fun j j0 j1 j2 => by rw [e96, p1 j j0 j1, if_neg j2]
    refine A53 c3 ⟨M3, fun _ => ?_⟩ ⟨m5, fun y hy => ?_⟩
    · refine ⟨⟨q _ (by decide) (by decide) (by decide), q _ (by decide) (by decide) (by decide), q _ (by decide) (by decide) (by decide), q _ (by decide) (by decide) (by decide), q _ (by decide) (by decide) (by decide), q _ (by decide) (by decide) (by decide)⟩, ⟨⟨?_, q _ (by decide) (by decide) (by decide), q _ (by decide) (by decide) (by decide)⟩, ?_, q _ (by decide) (by decide) (by decide), q _ (by decide) (by decide) (by decide)⟩, fun s s0 s1 => ⟨q _ (by omega) (by omega) (by omega), q _ (by omega) (by omega) (by omega)⟩, fun m m0 m1 => q _ (by omega) (by omega) (by omega), fun j hj => ?_⟩
      · rw [q _ (by decide) (by decide) (by decide)]
        exact b01_f (fun z => z rfl)
      · rw [q _ (by decide) (by decide) (by decide)]
        exact b01_f (fun z => z rfl)
      · rw [e96]
        exact p1 j (by omega) (by omega)
    · simp at hy
      rw [N.2.2.2 y (by simp; omega), z2 y hy.2, e1 y hy.1]
  · exact absurd (wb0.mp c_16) (fun z => z (by unfold w64; omega))
end
