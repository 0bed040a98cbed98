/-! Moves: what follows a state -/
def c9 (v : Int) : Int := if v < 0 then 0 else if 9 < v then 9 else v
theorem c9_in (v : Int) : 0 ≤ c9 v ∧ c9 v ≤ 9 := by unfold c9; split <;> (try split) <;> omega
def nextS (ct : mbCt) (b st m s : Int) : Int := (c9 (st / 70 + ct (b + 2) s) * 10 + c9 (st / 7 % 10 + ct (b + 3) s)) * 7 + m
theorem nextS_in {ct : mbCt} {b st m s : Int} (h0 : 0 ≤ m) (h1 : m ≤ 6) : 0 ≤ nextS ct b st m s ∧ nextS ct b st m s < 700 := by
  unfold nextS
  have h2 := c9_in (st / 70 + ct (b + 2) s)
  have h3 := c9_in (st / 7 % 10 + ct (b + 3) s)
  omega
/-- the book in use is the one or the other -/
def bkN (b : Int) : Prop := b = 2 ∨ b = 7
theorem bk_at {sh : mbSh} {ct : mbCt} {b : Int} (S : SH sh) (L : LK ct) (hb : bkN b) : bkAt sh ct b := by
  rcases hb with rfl | rfl
  · exact ⟨S.at _ rfl, S.at _ rfl, S.at _ rfl, S.at _ rfl, S.at _ rfl, L.at _ _ rfl, L.at _ _ rfl, L.at _ _ rfl, L.at _ _ rfl⟩
  · exact ⟨S.at _ rfl, S.at _ rfl, S.at _ rfl, S.at _ rfl, S.at _ rfl, L.at _ _ rfl, L.at _ _ rfl, L.at _ _ rfl, L.at _ _ rfl⟩
def mvTurn (ct : mbCt) (b : Int) : Prop := ∀ s o, 0 ≤ s → s < ct b 3 → 0 ≤ o → o < 100 → ct 74 (s * 100 + o) = (c9 (o / 10 + ct (b + 2) s) * 10 + c9 (o % 10 + ct (b + 3) s)) * 7
def mvCl (ct : mbCt) (b : Int) : Prop := ∀ st, 0 ≤ st → st < 700 → ct 73 st = 0 ∨ ct 73 st = if closesB ct b st = true then 2 else 1
theorem closesB_eq {ct c : mbCt} {b : Int} (h1 : c b = ct b) (h2 : c (b + 4) = ct (b + 4)) (st : Int) : closesB c b st = closesB ct b st := by
  unfold closesB
  rw [h1, h2]
theorem wouldB_eq {ct c : mbCt} {b : Int} (h1 : c b = ct b) (h2 : c (b + 4) = ct (b + 4)) (st w m s : Int) : wouldB c b st w m s = wouldB ct b st w m s := by
  unfold wouldB
  rw [h1, h2]
theorem bkWf_eq {ct c : mbCt} {b : Int} (h1 : c b = ct b) (h2 : c (b + 4) = ct (b + 4)) (h : bkWf ct b) : bkWf c b := by
  unfold bkWf at *
  rw [h1, h2]
  exact h
theorem dX4_settle_0 : decode cX4_settle 0 = .ok (.aload_n 0, 1) := by decide +kernel
theorem dX4_settle_1 : decode cX4_settle 1 = .ok (.aload_n 1, 1) := by decide +kernel
theorem dX4_settle_2 : decode cX4_settle 2 = .ok (.putfield 32, 3) := by decide +kernel
theorem dX4_settle_5 : decode cX4_settle 5 = .ok (.aload_n 0, 1) := by decide +kernel
theorem dX4_settle_6 : decode cX4_settle 6 = .ok (.iconst 0, 1) := by decide +kernel
theorem dX4_settle_7 : decode cX4_settle 7 = .ok (.putfield 40, 3) := by decide +kernel
theorem dX4_settle_10 : decode cX4_settle 10 = .ok (.aload_n 0, 1) := by decide +kernel
theorem dX4_settle_11 : decode cX4_settle 11 = .ok (.getfield 32, 3) := by decide +kernel
theorem dX4_settle_14 : decode cX4_settle 14 = .ok (.getfield 44, 3) := by decide +kernel
theorem dX4_settle_17 : decode cX4_settle 17 = .ok (.istore_n 2, 1) := by decide +kernel
theorem dX4_settle_18 : decode cX4_settle 18 = .ok (.iload_n 2, 1) := by decide +kernel
theorem dX4_settle_19 : decode cX4_settle 19 = .ok (.aload_n 0, 1) := by decide +kernel
theorem dX4_settle_20 : decode cX4_settle 20 = .ok (.getfield 32, 3) := by decide +kernel
theorem dX4_settle_23 : decode cX4_settle 23 = .ok (.getfield 50, 3) := by decide +kernel
theorem dX4_settle_26 : decode cX4_settle 26 = .ok (.if_icmp .ge 37, 3) := by decide +kernel
theorem dX4_settle_29 : decode cX4_settle 29 = .ok (.aload_n 0, 1) := by decide +kernel
theorem dX4_settle_30 : decode cX4_settle 30 = .ok (.dup, 1) := by decide +kernel
theorem dX4_settle_31 : decode cX4_settle 31 = .ok (.getfield 40, 3) := by decide +kernel
theorem dX4_settle_34 : decode cX4_settle 34 = .ok (.aload_n 0, 1) := by decide +kernel
theorem dX4_settle_35 : decode cX4_settle 35 = .ok (.getfield 32, 3) := by decide +kernel
theorem dX4_settle_38 : decode cX4_settle 38 = .ok (.getfield 53, 3) := by decide +kernel
theorem dX4_settle_41 : decode cX4_settle 41 = .ok (.iload_n 2, 1) := by decide +kernel
theorem dX4_settle_42 : decode cX4_settle 42 = .ok (.saload, 1) := by decide +kernel
theorem dX4_settle_43 : decode cX4_settle 43 = .ok (.bipush (-3), 2) := by decide +kernel
theorem dX4_settle_45 : decode cX4_settle 45 = .ok (.if_icmp .ne 7, 3) := by decide +kernel
theorem dX4_settle_48 : decode cX4_settle 48 = .ok (.iconst 1, 1) := by decide +kernel
theorem dX4_settle_49 : decode cX4_settle 49 = .ok (.goto 4, 3) := by decide +kernel
theorem dX4_settle_52 : decode cX4_settle 52 = .ok (.iconst 0, 1) := by decide +kernel
theorem dX4_settle_53 : decode cX4_settle 53 = .ok (.ior, 1) := by decide +kernel
theorem dX4_settle_54 : decode cX4_settle 54 = .ok (.putfield 40, 3) := by decide +kernel
theorem dX4_settle_57 : decode cX4_settle 57 = .ok (.iinc 2 1, 3) := by decide +kernel
theorem dX4_settle_60 : decode cX4_settle 60 = .ok (.goto (-42), 3) := by decide +kernel
theorem dX4_settle_63 : decode cX4_settle 63 = .ok (.iconst 0, 1) := by decide +kernel
theorem dX4_settle_64 : decode cX4_settle 64 = .ok (.istore_n 2, 1) := by decide +kernel
theorem dX4_settle_65 : decode cX4_settle 65 = .ok (.iload_n 2, 1) := by decide +kernel
theorem dX4_settle_66 : decode cX4_settle 66 = .ok (.aload_n 0, 1) := by decide +kernel
theorem dX4_settle_67 : decode cX4_settle 67 = .ok (.getfield 32, 3) := by decide +kernel
theorem dX4_settle_70 : decode cX4_settle 70 = .ok (.getfield 57, 3) := by decide +kernel
theorem dX4_settle_73 : decode cX4_settle 73 = .ok (.if_icmp .ge 80, 3) := by decide +kernel
theorem dX4_settle_76 : decode cX4_settle 76 = .ok (.iconst 0, 1) := by decide +kernel
theorem dX4_settle_77 : decode cX4_settle 77 = .ok (.istore_n 3, 1) := by decide +kernel
theorem dX4_settle_78 : decode cX4_settle 78 = .ok (.iload_n 3, 1) := by decide +kernel
theorem dX4_settle_79 : decode cX4_settle 79 = .ok (.bipush 100, 2) := by decide +kernel
theorem dX4_settle_81 : decode cX4_settle 81 = .ok (.if_icmp .ge 66, 3) := by decide +kernel
theorem dX4_settle_84 : decode cX4_settle 84 = .ok (.iload_n 3, 1) := by decide +kernel
theorem dX4_settle_85 : decode cX4_settle 85 = .ok (.bipush 10, 2) := by decide +kernel
theorem dX4_settle_87 : decode cX4_settle 87 = .ok (.idiv, 1) := by decide +kernel
theorem dX4_settle_88 : decode cX4_settle 88 = .ok (.aload_n 0, 1) := by decide +kernel
theorem dX4_settle_89 : decode cX4_settle 89 = .ok (.getfield 32, 3) := by decide +kernel
theorem dX4_settle_92 : decode cX4_settle 92 = .ok (.getfield 60, 3) := by decide +kernel
theorem dX4_settle_95 : decode cX4_settle 95 = .ok (.iload_n 2, 1) := by decide +kernel
theorem dX4_settle_96 : decode cX4_settle 96 = .ok (.iaload, 1) := by decide +kernel
theorem dX4_settle_97 : decode cX4_settle 97 = .ok (.iadd, 1) := by decide +kernel
theorem dX4_settle_98 : decode cX4_settle 98 = .ok (.invokestatic 63, 3) := by decide +kernel
theorem dX4_settle_101 : decode cX4_settle 101 = .ok (.istore 4, 2) := by decide +kernel
theorem dX4_settle_103 : decode cX4_settle 103 = .ok (.iload_n 3, 1) := by decide +kernel
theorem dX4_settle_104 : decode cX4_settle 104 = .ok (.bipush 10, 2) := by decide +kernel
theorem dX4_settle_106 : decode cX4_settle 106 = .ok (.irem, 1) := by decide +kernel
theorem dX4_settle_107 : decode cX4_settle 107 = .ok (.aload_n 0, 1) := by decide +kernel
theorem dX4_settle_108 : decode cX4_settle 108 = .ok (.getfield 32, 3) := by decide +kernel
theorem dX4_settle_111 : decode cX4_settle 111 = .ok (.getfield 67, 3) := by decide +kernel
theorem dX4_settle_114 : decode cX4_settle 114 = .ok (.iload_n 2, 1) := by decide +kernel
theorem dX4_settle_115 : decode cX4_settle 115 = .ok (.iaload, 1) := by decide +kernel
theorem dX4_settle_116 : decode cX4_settle 116 = .ok (.iadd, 1) := by decide +kernel
theorem dX4_settle_117 : decode cX4_settle 117 = .ok (.invokestatic 63, 3) := by decide +kernel
theorem dX4_settle_120 : decode cX4_settle 120 = .ok (.istore 5, 2) := by decide +kernel
theorem dX4_settle_122 : decode cX4_settle 122 = .ok (.aload_n 0, 1) := by decide +kernel
theorem dX4_settle_123 : decode cX4_settle 123 = .ok (.getfield 23, 3) := by decide +kernel
theorem dX4_settle_126 : decode cX4_settle 126 = .ok (.iload_n 2, 1) := by decide +kernel
theorem dX4_settle_127 : decode cX4_settle 127 = .ok (.bipush 100, 2) := by decide +kernel
theorem dX4_settle_129 : decode cX4_settle 129 = .ok (.imul, 1) := by decide +kernel
theorem dX4_settle_130 : decode cX4_settle 130 = .ok (.iload_n 3, 1) := by decide +kernel
theorem dX4_settle_131 : decode cX4_settle 131 = .ok (.iadd, 1) := by decide +kernel
theorem dX4_settle_132 : decode cX4_settle 132 = .ok (.iload 4, 2) := by decide +kernel
theorem dX4_settle_134 : decode cX4_settle 134 = .ok (.iload 5, 2) := by decide +kernel
theorem dX4_settle_136 : decode cX4_settle 136 = .ok (.iconst 0, 1) := by decide +kernel
theorem dX4_settle_137 : decode cX4_settle 137 = .ok (.invokestatic 70, 3) := by decide +kernel
theorem dX4_settle_140 : decode cX4_settle 140 = .ok (.iastore, 1) := by decide +kernel
theorem dX4_settle_141 : decode cX4_settle 141 = .ok (.iinc 3 1, 3) := by decide +kernel
theorem dX4_settle_144 : decode cX4_settle 144 = .ok (.goto (-66), 3) := by decide +kernel
theorem dX4_settle_147 : decode cX4_settle 147 = .ok (.iinc 2 1, 3) := by decide +kernel
theorem dX4_settle_150 : decode cX4_settle 150 = .ok (.goto (-85), 3) := by decide +kernel
theorem dX4_settle_153 : decode cX4_settle 153 = .ok (.aload_n 0, 1) := by decide +kernel
theorem dX4_settle_154 : decode cX4_settle 154 = .ok (.getfield 15, 3) := by decide +kernel
theorem dX4_settle_157 : decode cX4_settle 157 = .ok (.lconst 0, 1) := by decide +kernel
theorem dX4_settle_158 : decode cX4_settle 158 = .ok (.invokestatic 74, 3) := by decide +kernel
theorem dX4_settle_161 : decode cX4_settle 161 = .ok (.aload_n 0, 1) := by decide +kernel
theorem dX4_settle_162 : decode cX4_settle 162 = .ok (.getfield 19, 3) := by decide +kernel
theorem dX4_settle_165 : decode cX4_settle 165 = .ok (.iconst 0, 1) := by decide +kernel
theorem dX4_settle_166 : decode cX4_settle 166 = .ok (.invokestatic 80, 3) := by decide +kernel
theorem dX4_settle_169 : decode cX4_settle 169 = .ok (.aload_n 0, 1) := by decide +kernel
theorem dX4_settle_170 : decode cX4_settle 170 = .ok (.dup, 1) := by decide +kernel
theorem dX4_settle_171 : decode cX4_settle 171 = .ok (.getfield 83, 3) := by decide +kernel
theorem dX4_settle_174 : decode cX4_settle 174 = .ok (.iconst 1, 1) := by decide +kernel
theorem dX4_settle_175 : decode cX4_settle 175 = .ok (.iadd, 1) := by decide +kernel
theorem dX4_settle_176 : decode cX4_settle 176 = .ok (.putfield 83, 3) := by decide +kernel
theorem dX4_settle_179 : decode cX4_settle 179 = .ok (.return_, 1) := by decide +kernel
theorem dX4_within_0 : decode cX4_within 0 = .ok (.iconst 0, 1) := by decide +kernel
theorem dX4_within_1 : decode cX4_within 1 = .ok (.bipush 9, 2) := by decide +kernel
theorem dX4_within_3 : decode cX4_within 3 = .ok (.iload_n 0, 1) := by decide +kernel
theorem dX4_within_4 : decode cX4_within 4 = .ok (.invokestatic 86, 3) := by decide +kernel
theorem dX4_within_7 : decode cX4_within 7 = .ok (.invokestatic 92, 3) := by decide +kernel
theorem dX4_within_10 : decode cX4_within 10 = .ok (.ireturn, 1) := by decide +kernel
theorem dX4_heed_0 : decode cX4_heed 0 = .ok (.iconst 1, 1) := by decide +kernel
theorem dX4_heed_1 : decode cX4_heed 1 = .ok (.istore_n 2, 1) := by decide +kernel
theorem dX4_heed_2 : decode cX4_heed 2 = .ok (.iconst 0, 1) := by decide +kernel
theorem dX4_heed_3 : decode cX4_heed 3 = .ok (.istore_n 3, 1) := by decide +kernel
theorem dX4_heed_4 : decode cX4_heed 4 = .ok (.iload_n 3, 1) := by decide +kernel
theorem dX4_heed_5 : decode cX4_heed 5 = .ok (.aload_n 0, 1) := by decide +kernel
theorem dX4_heed_6 : decode cX4_heed 6 = .ok (.getfield 32, 3) := by decide +kernel
theorem dX4_heed_9 : decode cX4_heed 9 = .ok (.getfield 95, 3) := by decide +kernel
theorem dX4_heed_12 : decode cX4_heed 12 = .ok (.if_icmp .ge 38, 3) := by decide +kernel
theorem dX4_heed_15 : decode cX4_heed 15 = .ok (.iload_n 2, 1) := by decide +kernel
theorem dX4_heed_16 : decode cX4_heed 16 = .ok (.aload_n 0, 1) := by decide +kernel
theorem dX4_heed_17 : decode cX4_heed 17 = .ok (.getfield 9, 3) := by decide +kernel
theorem dX4_heed_20 : decode cX4_heed 20 = .ok (.iload_n 3, 1) := by decide +kernel
theorem dX4_heed_21 : decode cX4_heed 21 = .ok (.iaload, 1) := by decide +kernel
theorem dX4_heed_22 : decode cX4_heed 22 = .ok (.aload_n 1, 1) := by decide +kernel
theorem dX4_heed_23 : decode cX4_heed 23 = .ok (.iload_n 3, 1) := by decide +kernel
theorem dX4_heed_24 : decode cX4_heed 24 = .ok (.iaload, 1) := by decide +kernel
theorem dX4_heed_25 : decode cX4_heed 25 = .ok (.if_icmp .ne 7, 3) := by decide +kernel
theorem dX4_heed_28 : decode cX4_heed 28 = .ok (.iconst 1, 1) := by decide +kernel
theorem dX4_heed_29 : decode cX4_heed 29 = .ok (.goto 4, 3) := by decide +kernel
theorem dX4_heed_32 : decode cX4_heed 32 = .ok (.iconst 0, 1) := by decide +kernel
theorem dX4_heed_33 : decode cX4_heed 33 = .ok (.iand, 1) := by decide +kernel
theorem dX4_heed_34 : decode cX4_heed 34 = .ok (.istore_n 2, 1) := by decide +kernel
theorem dX4_heed_35 : decode cX4_heed 35 = .ok (.aload_n 0, 1) := by decide +kernel
theorem dX4_heed_36 : decode cX4_heed 36 = .ok (.getfield 9, 3) := by decide +kernel
theorem dX4_heed_39 : decode cX4_heed 39 = .ok (.iload_n 3, 1) := by decide +kernel
theorem dX4_heed_40 : decode cX4_heed 40 = .ok (.aload_n 1, 1) := by decide +kernel
theorem dX4_heed_41 : decode cX4_heed 41 = .ok (.iload_n 3, 1) := by decide +kernel
theorem dX4_heed_42 : decode cX4_heed 42 = .ok (.iaload, 1) := by decide +kernel
theorem dX4_heed_43 : decode cX4_heed 43 = .ok (.iastore, 1) := by decide +kernel
theorem dX4_heed_44 : decode cX4_heed 44 = .ok (.iinc 3 1, 3) := by decide +kernel
theorem dX4_heed_47 : decode cX4_heed 47 = .ok (.goto (-43), 3) := by decide +kernel
theorem dX4_heed_50 : decode cX4_heed 50 = .ok (.iload_n 2, 1) := by decide +kernel
theorem dX4_heed_51 : decode cX4_heed 51 = .ok (.ifCond .ne 21, 3) := by decide +kernel
theorem dX4_heed_54 : decode cX4_heed 54 = .ok (.aload_n 0, 1) := by decide +kernel
theorem dX4_heed_55 : decode cX4_heed 55 = .ok (.getfield 15, 3) := by decide +kernel
theorem dX4_heed_58 : decode cX4_heed 58 = .ok (.lconst 0, 1) := by decide +kernel
theorem dX4_heed_59 : decode cX4_heed 59 = .ok (.invokestatic 74, 3) := by decide +kernel
theorem dX4_heed_62 : decode cX4_heed 62 = .ok (.aload_n 0, 1) := by decide +kernel
theorem dX4_heed_63 : decode cX4_heed 63 = .ok (.dup, 1) := by decide +kernel
theorem dX4_heed_64 : decode cX4_heed 64 = .ok (.getfield 83, 3) := by decide +kernel
theorem dX4_heed_67 : decode cX4_heed 67 = .ok (.iconst 1, 1) := by decide +kernel
theorem dX4_heed_68 : decode cX4_heed 68 = .ok (.iadd, 1) := by decide +kernel
theorem dX4_heed_69 : decode cX4_heed 69 = .ok (.putfield 83, 3) := by decide +kernel
theorem dX4_heed_72 : decode cX4_heed 72 = .ok (.return_, 1) := by decide +kernel
theorem dX4_minutesAt_0 : decode cX4_minutesAt 0 = .ok (.aload_n 0, 1) := by decide +kernel
theorem dX4_minutesAt_1 : decode cX4_minutesAt 1 = .ok (.getfield 40, 3) := by decide +kernel
theorem dX4_minutesAt_4 : decode cX4_minutesAt 4 = .ok (.ifCond .eq 7, 3) := by decide +kernel
theorem dX4_minutesAt_7 : decode cX4_minutesAt 7 = .ok (.iload_n 1, 1) := by decide +kernel
theorem dX4_minutesAt_8 : decode cX4_minutesAt 8 = .ok (.goto 9, 3) := by decide +kernel
theorem dX4_minutesAt_11 : decode cX4_minutesAt 11 = .ok (.iload_n 1, 1) := by decide +kernel
theorem dX4_minutesAt_12 : decode cX4_minutesAt 12 = .ok (.iload_n 1, 1) := by decide +kernel
theorem dX4_minutesAt_13 : decode cX4_minutesAt 13 = .ok (.invokestatic 98, 3) := by decide +kernel
theorem dX4_minutesAt_16 : decode cX4_minutesAt 16 = .ok (.isub, 1) := by decide +kernel
theorem dX4_minutesAt_17 : decode cX4_minutesAt 17 = .ok (.istore_n 2, 1) := by decide +kernel
theorem dX4_minutesAt_18 : decode cX4_minutesAt 18 = .ok (.aload_n 0, 1) := by decide +kernel
theorem dX4_minutesAt_19 : decode cX4_minutesAt 19 = .ok (.getfield 15, 3) := by decide +kernel
theorem dX4_minutesAt_22 : decode cX4_minutesAt 22 = .ok (.iload_n 2, 1) := by decide +kernel
theorem dX4_minutesAt_23 : decode cX4_minutesAt 23 = .ok (.laload, 1) := by decide +kernel
theorem dX4_minutesAt_24 : decode cX4_minutesAt 24 = .ok (.lconst 0, 1) := by decide +kernel
theorem dX4_minutesAt_25 : decode cX4_minutesAt 25 = .ok (.lcmp, 1) := by decide +kernel
theorem dX4_minutesAt_26 : decode cX4_minutesAt 26 = .ok (.ifCond .ne 92, 3) := by decide +kernel
theorem dX4_minutesAt_29 : decode cX4_minutesAt 29 = .ok (.ldc2_w 101, 3) := by decide +kernel
theorem dX4_minutesAt_32 : decode cX4_minutesAt 32 = .ok (.lstore_n 3, 1) := by decide +kernel
theorem dX4_minutesAt_33 : decode cX4_minutesAt 33 = .ok (.iconst 0, 1) := by decide +kernel
theorem dX4_minutesAt_34 : decode cX4_minutesAt 34 = .ok (.istore 5, 2) := by decide +kernel
theorem dX4_minutesAt_36 : decode cX4_minutesAt 36 = .ok (.iload 5, 2) := by decide +kernel
theorem dX4_minutesAt_38 : decode cX4_minutesAt 38 = .ok (.aload_n 0, 1) := by decide +kernel
theorem dX4_minutesAt_39 : decode cX4_minutesAt 39 = .ok (.getfield 32, 3) := by decide +kernel
theorem dX4_minutesAt_42 : decode cX4_minutesAt 42 = .ok (.getfield 95, 3) := by decide +kernel
theorem dX4_minutesAt_45 : decode cX4_minutesAt 45 = .ok (.if_icmp .ge 66, 3) := by decide +kernel
theorem dX4_minutesAt_48 : decode cX4_minutesAt 48 = .ok (.iconst 0, 1) := by decide +kernel
theorem dX4_minutesAt_49 : decode cX4_minutesAt 49 = .ok (.istore 6, 2) := by decide +kernel
theorem dX4_minutesAt_51 : decode cX4_minutesAt 51 = .ok (.iload 6, 2) := by decide +kernel
theorem dX4_minutesAt_53 : decode cX4_minutesAt 53 = .ok (.aload_n 0, 1) := by decide +kernel
theorem dX4_minutesAt_54 : decode cX4_minutesAt 54 = .ok (.getfield 32, 3) := by decide +kernel
theorem dX4_minutesAt_57 : decode cX4_minutesAt 57 = .ok (.getfield 57, 3) := by decide +kernel
theorem dX4_minutesAt_60 : decode cX4_minutesAt 60 = .ok (.if_icmp .ge 45, 3) := by decide +kernel
theorem dX4_minutesAt_63 : decode cX4_minutesAt 63 = .ok (.aload_n 0, 1) := by decide +kernel
theorem dX4_minutesAt_64 : decode cX4_minutesAt 64 = .ok (.getfield 36, 3) := by decide +kernel
theorem dX4_minutesAt_67 : decode cX4_minutesAt 67 = .ok (.aload_n 0, 1) := by decide +kernel
theorem dX4_minutesAt_68 : decode cX4_minutesAt 68 = .ok (.getfield 32, 3) := by decide +kernel
theorem dX4_minutesAt_71 : decode cX4_minutesAt 71 = .ok (.iload_n 2, 1) := by decide +kernel
theorem dX4_minutesAt_72 : decode cX4_minutesAt 72 = .ok (.iload 5, 2) := by decide +kernel
theorem dX4_minutesAt_74 : decode cX4_minutesAt 74 = .ok (.aload_n 0, 1) := by decide +kernel
theorem dX4_minutesAt_75 : decode cX4_minutesAt 75 = .ok (.getfield 9, 3) := by decide +kernel
theorem dX4_minutesAt_78 : decode cX4_minutesAt 78 = .ok (.iload 5, 2) := by decide +kernel
theorem dX4_minutesAt_80 : decode cX4_minutesAt 80 = .ok (.iaload, 1) := by decide +kernel
theorem dX4_minutesAt_81 : decode cX4_minutesAt 81 = .ok (.iload 6, 2) := by decide +kernel
theorem dX4_minutesAt_83 : decode cX4_minutesAt 83 = .ok (.invokevirtual 103, 3) := by decide +kernel
theorem dX4_minutesAt_86 : decode cX4_minutesAt 86 = .ok (.ifCond .eq 13, 3) := by decide +kernel
theorem dX4_minutesAt_89 : decode cX4_minutesAt 89 = .ok (.lload_n 3, 1) := by decide +kernel
theorem dX4_minutesAt_90 : decode cX4_minutesAt 90 = .ok (.iload 5, 2) := by decide +kernel
theorem dX4_minutesAt_92 : decode cX4_minutesAt 92 = .ok (.iload 6, 2) := by decide +kernel
theorem dX4_minutesAt_94 : decode cX4_minutesAt 94 = .ok (.invokestatic 109, 3) := by decide +kernel
theorem dX4_minutesAt_97 : decode cX4_minutesAt 97 = .ok (.lor, 1) := by decide +kernel
theorem dX4_minutesAt_98 : decode cX4_minutesAt 98 = .ok (.lstore_n 3, 1) := by decide +kernel
theorem dX4_minutesAt_99 : decode cX4_minutesAt 99 = .ok (.iinc 6 1, 3) := by decide +kernel
theorem dX4_minutesAt_102 : decode cX4_minutesAt 102 = .ok (.goto (-51), 3) := by decide +kernel
theorem dX4_minutesAt_105 : decode cX4_minutesAt 105 = .ok (.iinc 5 1, 3) := by decide +kernel
theorem dX4_minutesAt_108 : decode cX4_minutesAt 108 = .ok (.goto (-72), 3) := by decide +kernel
theorem dX4_minutesAt_111 : decode cX4_minutesAt 111 = .ok (.aload_n 0, 1) := by decide +kernel
theorem dX4_minutesAt_112 : decode cX4_minutesAt 112 = .ok (.getfield 15, 3) := by decide +kernel
theorem dX4_minutesAt_115 : decode cX4_minutesAt 115 = .ok (.iload_n 2, 1) := by decide +kernel
theorem dX4_minutesAt_116 : decode cX4_minutesAt 116 = .ok (.lload_n 3, 1) := by decide +kernel
theorem dX4_minutesAt_117 : decode cX4_minutesAt 117 = .ok (.lastore, 1) := by decide +kernel
theorem dX4_minutesAt_118 : decode cX4_minutesAt 118 = .ok (.aload_n 0, 1) := by decide +kernel
theorem dX4_minutesAt_119 : decode cX4_minutesAt 119 = .ok (.getfield 15, 3) := by decide +kernel
theorem dX4_minutesAt_122 : decode cX4_minutesAt 122 = .ok (.iload_n 2, 1) := by decide +kernel
theorem dX4_minutesAt_123 : decode cX4_minutesAt 123 = .ok (.laload, 1) := by decide +kernel
theorem dX4_minutesAt_124 : decode cX4_minutesAt 124 = .ok (.ldc2_w 113, 3) := by decide +kernel
theorem dX4_minutesAt_127 : decode cX4_minutesAt 127 = .ok (.land, 1) := by decide +kernel
theorem dX4_minutesAt_128 : decode cX4_minutesAt 128 = .ok (.lreturn, 1) := by decide +kernel
theorem dX4_closes_0 : decode cX4_closes 0 = .ok (.aload_n 0, 1) := by decide +kernel
theorem dX4_closes_1 : decode cX4_closes 1 = .ok (.getfield 19, 3) := by decide +kernel
theorem dX4_closes_4 : decode cX4_closes 4 = .ok (.iload_n 1, 1) := by decide +kernel
theorem dX4_closes_5 : decode cX4_closes 5 = .ok (.baload, 1) := by decide +kernel
theorem dX4_closes_6 : decode cX4_closes 6 = .ok (.ifCond .ne 30, 3) := by decide +kernel
theorem dX4_closes_9 : decode cX4_closes 9 = .ok (.aload_n 0, 1) := by decide +kernel
theorem dX4_closes_10 : decode cX4_closes 10 = .ok (.getfield 19, 3) := by decide +kernel
theorem dX4_closes_13 : decode cX4_closes 13 = .ok (.iload_n 1, 1) := by decide +kernel
theorem dX4_closes_14 : decode cX4_closes 14 = .ok (.aload_n 0, 1) := by decide +kernel
theorem dX4_closes_15 : decode cX4_closes 15 = .ok (.getfield 36, 3) := by decide +kernel
theorem dX4_closes_18 : decode cX4_closes 18 = .ok (.aload_n 0, 1) := by decide +kernel
theorem dX4_closes_19 : decode cX4_closes 19 = .ok (.getfield 32, 3) := by decide +kernel
theorem dX4_closes_22 : decode cX4_closes 22 = .ok (.iload_n 1, 1) := by decide +kernel
theorem dX4_closes_23 : decode cX4_closes 23 = .ok (.invokevirtual 115, 3) := by decide +kernel
theorem dX4_closes_26 : decode cX4_closes 26 = .ok (.ifCond .eq 7, 3) := by decide +kernel
theorem dX4_closes_29 : decode cX4_closes 29 = .ok (.iconst 2, 1) := by decide +kernel
theorem dX4_closes_30 : decode cX4_closes 30 = .ok (.goto 4, 3) := by decide +kernel
theorem dX4_closes_33 : decode cX4_closes 33 = .ok (.iconst 1, 1) := by decide +kernel
theorem dX4_closes_34 : decode cX4_closes 34 = .ok (.i2b, 1) := by decide +kernel
theorem dX4_closes_35 : decode cX4_closes 35 = .ok (.bastore, 1) := by decide +kernel
theorem dX4_closes_36 : decode cX4_closes 36 = .ok (.aload_n 0, 1) := by decide +kernel
theorem dX4_closes_37 : decode cX4_closes 37 = .ok (.getfield 19, 3) := by decide +kernel
theorem dX4_closes_40 : decode cX4_closes 40 = .ok (.iload_n 1, 1) := by decide +kernel
theorem dX4_closes_41 : decode cX4_closes 41 = .ok (.baload, 1) := by decide +kernel
theorem dX4_closes_42 : decode cX4_closes 42 = .ok (.iconst 2, 1) := by decide +kernel
theorem dX4_closes_43 : decode cX4_closes 43 = .ok (.if_icmp .ne 7, 3) := by decide +kernel
theorem dX4_closes_46 : decode cX4_closes 46 = .ok (.iconst 1, 1) := by decide +kernel
theorem dX4_closes_47 : decode cX4_closes 47 = .ok (.goto 4, 3) := by decide +kernel
theorem dX4_closes_50 : decode cX4_closes 50 = .ok (.iconst 0, 1) := by decide +kernel
theorem dX4_closes_51 : decode cX4_closes 51 = .ok (.ireturn, 1) := by decide +kernel
theorem dX4_isEnd_0 : decode cX4_isEnd 0 = .ok (.iload_n 2, 1) := by decide +kernel
theorem dX4_isEnd_1 : decode cX4_isEnd 1 = .ok (.iconst (-1), 1) := by decide +kernel
theorem dX4_isEnd_2 : decode cX4_isEnd 2 = .ok (.if_icmp .eq 11, 3) := by decide +kernel
theorem dX4_isEnd_5 : decode cX4_isEnd 5 = .ok (.iload_n 1, 1) := by decide +kernel
theorem dX4_isEnd_6 : decode cX4_isEnd 6 = .ok (.invokestatic 119, 3) := by decide +kernel
theorem dX4_isEnd_9 : decode cX4_isEnd 9 = .ok (.iload_n 2, 1) := by decide +kernel
theorem dX4_isEnd_10 : decode cX4_isEnd 10 = .ok (.if_icmp .ne 15, 3) := by decide +kernel
theorem dX4_isEnd_13 : decode cX4_isEnd 13 = .ok (.aload_n 0, 1) := by decide +kernel
theorem dX4_isEnd_14 : decode cX4_isEnd 14 = .ok (.iload_n 1, 1) := by decide +kernel
theorem dX4_isEnd_15 : decode cX4_isEnd 15 = .ok (.invokevirtual 122, 3) := by decide +kernel
theorem dX4_isEnd_18 : decode cX4_isEnd 18 = .ok (.ifCond .eq 7, 3) := by decide +kernel
theorem dX4_isEnd_21 : decode cX4_isEnd 21 = .ok (.iconst 1, 1) := by decide +kernel
theorem dX4_isEnd_22 : decode cX4_isEnd 22 = .ok (.goto 4, 3) := by decide +kernel
theorem dX4_isEnd_25 : decode cX4_isEnd 25 = .ok (.iconst 0, 1) := by decide +kernel
theorem dX4_isEnd_26 : decode cX4_isEnd 26 = .ok (.ireturn, 1) := by decide +kernel
theorem dX4_behind_0 : decode cX4_behind 0 = .ok (.aload_n 0, 1) := by decide +kernel
theorem dX4_behind_1 : decode cX4_behind 1 = .ok (.getfield 23, 3) := by decide +kernel
theorem dX4_behind_4 : decode cX4_behind 4 = .ok (.iload_n 3, 1) := by decide +kernel
theorem dX4_behind_5 : decode cX4_behind 5 = .ok (.bipush 100, 2) := by decide +kernel
theorem dX4_behind_7 : decode cX4_behind 7 = .ok (.imul, 1) := by decide +kernel
theorem dX4_behind_8 : decode cX4_behind 8 = .ok (.iload_n 1, 1) := by decide +kernel
theorem dX4_behind_9 : decode cX4_behind 9 = .ok (.bipush 7, 2) := by decide +kernel
theorem dX4_behind_11 : decode cX4_behind 11 = .ok (.idiv, 1) := by decide +kernel
theorem dX4_behind_12 : decode cX4_behind 12 = .ok (.iadd, 1) := by decide +kernel
theorem dX4_behind_13 : decode cX4_behind 13 = .ok (.iaload, 1) := by decide +kernel
theorem dX4_behind_14 : decode cX4_behind 14 = .ok (.iload_n 2, 1) := by decide +kernel
theorem dX4_behind_15 : decode cX4_behind 15 = .ok (.iadd, 1) := by decide +kernel
theorem dX4_behind_16 : decode cX4_behind 16 = .ok (.ireturn, 1) := by decide +kernel
theorem dX4_branch_0 : decode cX4_branch 0 = .ok (.iconst 0, 1) := by decide +kernel
theorem dX4_branch_1 : decode cX4_branch 1 = .ok (.istore 4, 2) := by decide +kernel
theorem dX4_branch_3 : decode cX4_branch 3 = .ok (.iconst 0, 1) := by decide +kernel
theorem dX4_branch_4 : decode cX4_branch 4 = .ok (.istore 5, 2) := by decide +kernel
theorem dX4_branch_6 : decode cX4_branch 6 = .ok (.iload 5, 2) := by decide +kernel
theorem dX4_branch_8 : decode cX4_branch 8 = .ok (.bipush 6, 2) := by decide +kernel
theorem dX4_branch_10 : decode cX4_branch 10 = .ok (.if_icmp .ge 86, 3) := by decide +kernel
theorem dX4_branch_13 : decode cX4_branch 13 = .ok (.bipush 10, 2) := by decide +kernel
theorem dX4_branch_15 : decode cX4_branch 15 = .ok (.iload 5, 2) := by decide +kernel
theorem dX4_branch_17 : decode cX4_branch 17 = .ok (.imul, 1) := by decide +kernel
theorem dX4_branch_18 : decode cX4_branch 18 = .ok (.istore 6, 2) := by decide +kernel
theorem dX4_branch_20 : decode cX4_branch 20 = .ok (.iload_n 1, 1) := by decide +kernel
theorem dX4_branch_21 : decode cX4_branch 21 = .ok (.bipush 7, 2) := by decide +kernel
theorem dX4_branch_23 : decode cX4_branch 23 = .ok (.idiv, 1) := by decide +kernel
theorem dX4_branch_24 : decode cX4_branch 24 = .ok (.istore 7, 2) := by decide +kernel
theorem dX4_branch_26 : decode cX4_branch 26 = .ok (.lload_n 2, 1) := by decide +kernel
theorem dX4_branch_27 : decode cX4_branch 27 = .ok (.iload 5, 2) := by decide +kernel
theorem dX4_branch_29 : decode cX4_branch 29 = .ok (.invokestatic 126, 3) := by decide +kernel
theorem dX4_branch_32 : decode cX4_branch 32 = .ok (.istore 8, 2) := by decide +kernel
theorem dX4_branch_34 : decode cX4_branch 34 = .ok (.iload 8, 2) := by decide +kernel
theorem dX4_branch_36 : decode cX4_branch 36 = .ok (.ifCond .eq 54, 3) := by decide +kernel
theorem dX4_branch_39 : decode cX4_branch 39 = .ok (.iload 8, 2) := by decide +kernel
theorem dX4_branch_41 : decode cX4_branch 41 = .ok (.iconst 1, 1) := by decide +kernel
theorem dX4_branch_42 : decode cX4_branch 42 = .ok (.iand, 1) := by decide +kernel
theorem dX4_branch_43 : decode cX4_branch 43 = .ok (.ifCond .eq 32, 3) := by decide +kernel
theorem dX4_branch_46 : decode cX4_branch 46 = .ok (.aload_n 0, 1) := by decide +kernel
theorem dX4_branch_47 : decode cX4_branch 47 = .ok (.getfield 26, 3) := by decide +kernel
theorem dX4_branch_50 : decode cX4_branch 50 = .ok (.iload 4, 2) := by decide +kernel
theorem dX4_branch_52 : decode cX4_branch 52 = .ok (.iload 6, 2) := by decide +kernel
theorem dX4_branch_54 : decode cX4_branch 54 = .ok (.iastore, 1) := by decide +kernel
theorem dX4_branch_55 : decode cX4_branch 55 = .ok (.aload_n 0, 1) := by decide +kernel
theorem dX4_branch_56 : decode cX4_branch 56 = .ok (.getfield 29, 3) := by decide +kernel
theorem dX4_branch_59 : decode cX4_branch 59 = .ok (.iload 4, 2) := by decide +kernel
theorem dX4_branch_61 : decode cX4_branch 61 = .ok (.aload_n 0, 1) := by decide +kernel
theorem dX4_branch_62 : decode cX4_branch 62 = .ok (.getfield 23, 3) := by decide +kernel
theorem dX4_branch_65 : decode cX4_branch 65 = .ok (.iload 7, 2) := by decide +kernel
theorem dX4_branch_67 : decode cX4_branch 67 = .ok (.iaload, 1) := by decide +kernel
theorem dX4_branch_68 : decode cX4_branch 68 = .ok (.iload 5, 2) := by decide +kernel
theorem dX4_branch_70 : decode cX4_branch 70 = .ok (.iadd, 1) := by decide +kernel
theorem dX4_branch_71 : decode cX4_branch 71 = .ok (.iastore, 1) := by decide +kernel
theorem dX4_branch_72 : decode cX4_branch 72 = .ok (.iinc 4 1, 3) := by decide +kernel
theorem dX4_branch_75 : decode cX4_branch 75 = .ok (.iinc 6 1, 3) := by decide +kernel
theorem dX4_branch_78 : decode cX4_branch 78 = .ok (.iinc 7 100, 3) := by decide +kernel
theorem dX4_branch_81 : decode cX4_branch 81 = .ok (.iload 8, 2) := by decide +kernel
theorem dX4_branch_83 : decode cX4_branch 83 = .ok (.iconst 1, 1) := by decide +kernel
theorem dX4_branch_84 : decode cX4_branch 84 = .ok (.iushr, 1) := by decide +kernel
theorem dX4_branch_85 : decode cX4_branch 85 = .ok (.istore 8, 2) := by decide +kernel
theorem dX4_branch_87 : decode cX4_branch 87 = .ok (.goto (-53), 3) := by decide +kernel
theorem dX4_branch_90 : decode cX4_branch 90 = .ok (.iinc 5 1, 3) := by decide +kernel
theorem dX4_branch_93 : decode cX4_branch 93 = .ok (.goto (-87), 3) := by decide +kernel
theorem dX4_branch_96 : decode cX4_branch 96 = .ok (.iload 4, 2) := by decide +kernel
theorem dX4_branch_98 : decode cX4_branch 98 = .ok (.ireturn, 1) := by decide +kernel
theorem dX11_minuteBit_0 : decode cX11_minuteBit 0 = .ok (.lconst 1, 1) := by decide +kernel
theorem dX11_minuteBit_1 : decode cX11_minuteBit 1 = .ok (.bipush 8, 2) := by decide +kernel
theorem dX11_minuteBit_3 : decode cX11_minuteBit 3 = .ok (.iload_n 0, 1) := by decide +kernel
theorem dX11_minuteBit_4 : decode cX11_minuteBit 4 = .ok (.imul, 1) := by decide +kernel
theorem dX11_minuteBit_5 : decode cX11_minuteBit 5 = .ok (.iload_n 1, 1) := by decide +kernel
theorem dX11_minuteBit_6 : decode cX11_minuteBit 6 = .ok (.iadd, 1) := by decide +kernel
theorem dX11_minuteBit_7 : decode cX11_minuteBit 7 = .ok (.lshl, 1) := by decide +kernel
theorem dX11_minuteBit_8 : decode cX11_minuteBit 8 = .ok (.lreturn, 1) := by decide +kernel
theorem dX11_sayingsOf_0 : decode cX11_sayingsOf 0 = .ok (.lload_n 0, 1) := by decide +kernel
theorem dX11_sayingsOf_1 : decode cX11_sayingsOf 1 = .ok (.bipush 8, 2) := by decide +kernel
theorem dX11_sayingsOf_3 : decode cX11_sayingsOf 3 = .ok (.iload_n 2, 1) := by decide +kernel
theorem dX11_sayingsOf_4 : decode cX11_sayingsOf 4 = .ok (.imul, 1) := by decide +kernel
theorem dX11_sayingsOf_5 : decode cX11_sayingsOf 5 = .ok (.lushr, 1) := by decide +kernel
theorem dX11_sayingsOf_6 : decode cX11_sayingsOf 6 = .ok (.l2i, 1) := by decide +kernel
theorem dX11_sayingsOf_7 : decode cX11_sayingsOf 7 = .ok (.sipush 255, 3) := by decide +kernel
theorem dX11_sayingsOf_10 : decode cX11_sayingsOf 10 = .ok (.iand, 1) := by decide +kernel
theorem dX11_sayingsOf_11 : decode cX11_sayingsOf 11 = .ok (.ireturn, 1) := by decide +kernel
section
variable (d : Nat) (sh : mbSh) (ct : mbCt)
theorem c_within {x : Int} (h1 : -1000000 ≤ x) (h2 : x ≤ 1000000) : Mt YX4_within (d + 1) [.inl x] sh sh ct (pI fun r c => r = c9 x ∧ c = ct) := by
  refine Mt.of rfl (Nat.le_of_ble_eq_true rfl) ?_
  show G _ 0 [some (.inl x)] [] sh ct
  refine g_iconst (q := 1) dX4_within_0 rfl ?_
  refine g_bipush (q := 3) dX4_within_1 (by decide +kernel) rfl ?_
  refine g_iload_n (q := 4) dX4_within_3 rfl rfl ?_
  refine g_mmin (q := 7) lX4_86 tb_mminS tb_mI tb_mminC (rmOk.mk (by omega) (by first | exact shLe.rf | assumption)) (Nat.le_of_ble_eq_true rfl) dX4_within_4 rfl ?_
  rw [w32_id (x := x) (by omega) (by omega), show w32 9 = 9 from rfl]
  by_cases hx : x < 9
  · rw [if_pos hx]
    refine g_mmax (q := 10) lX4_92 tb_mmaxS tb_mI tb_mmaxC (rmOk.mk (by omega) (by first | exact shLe.rf | assumption)) (Nat.le_of_ble_eq_true rfl) dX4_within_7 rfl ?_
    refine g_ireturn dX4_within_10 rfl ?_
    refine ⟨_, rfl, ?_, rfl⟩
    unfold c9 w32
    split <;> split <;> (try split) <;> omega
  · rw [if_neg hx]
    refine g_mmax (q := 10) lX4_92 tb_mmaxS tb_mI tb_mmaxC (rmOk.mk (by omega) (by first | exact shLe.rf | assumption)) (Nat.le_of_ble_eq_true rfl) dX4_within_7 rfl ?_
    refine g_ireturn dX4_within_10 rfl ?_
    refine ⟨_, rfl, ?_, rfl⟩
    unfold c9 w32
    split <;> split <;> (try split) <;> omega
theorem c_minuteBit {m s : Int} (h0 : 0 ≤ m) (h1 : m < 6) (h2 : 0 ≤ s) (h3 : s < 8) : Mt YX11_minuteBit d [.inl m, .inl s] sh sh ct (pL fun r c => r = 2 ^ (8 * m + s).toNat ∧ c = ct) := by
  refine Mt.of rfl (Nat.le_of_ble_eq_true rfl) ?_
  show G _ 0 [some (.inl m), some (.inl s)] [] sh ct
  refine g_lconst1 (q := 1) dX11_minuteBit_0 rfl ?_
  refine g_bipush (q := 3) dX11_minuteBit_1 (by decide +kernel) rfl ?_
  refine g_iload_n (q := 4) dX11_minuteBit_3 rfl rfl ?_
  refine g_imul (q := 5) dX11_minuteBit_4 rfl ?_
  refine g_iload_n (q := 6) dX11_minuteBit_5 rfl rfl ?_
  refine g_iadd (q := 7) dX11_minuteBit_6 rfl ?_
  refine g_lshl (q := 8) dX11_minuteBit_7 rfl ?_
  refine g_lreturn dX11_minuteBit_8 rfl ?_
  refine ⟨_, rfl, ?_, rfl⟩
  unfold shlL
  rw [show (8 * m + s) % 64 = 8 * m + s by omega, Int.one_mul]
theorem c_sayingsOf {z m : Int} (h0 : 0 ≤ m) (h1 : m < 6) (z0 : 0 ≤ z) (z1 : z < 9223372036854775808) : Mt YX11_sayingsOf d [.inr (.inl z), .inl m] sh sh ct (pI fun r c => r = z / 2 ^ (8 * m).toNat % 256 ∧ c = ct) := by
  refine Mt.of rfl (Nat.le_of_ble_eq_true rfl) ?_
  show G _ 0 [some (.inr (.inl z)), none, some (.inl m)] [] sh ct
  refine g_lload_n (q := 1) dX11_sayingsOf_0 rfl rfl ?_
  refine g_bipush (q := 3) dX11_sayingsOf_1 (by decide +kernel) rfl ?_
  refine g_iload_n (q := 4) dX11_sayingsOf_3 rfl rfl ?_
  refine g_imul (q := 5) dX11_sayingsOf_4 rfl ?_
  refine g_lushr (q := 6) dX11_sayingsOf_5 rfl ?_
  refine g_l2i (q := 7) dX11_sayingsOf_6 rfl ?_
  refine g_sipush (q := 10) dX11_sayingsOf_7 (by decide +kernel) rfl ?_
  refine g_iand (q := 11) dX11_sayingsOf_10 rfl ?_
  refine g_ireturn dX11_sayingsOf_11 rfl ?_
  refine ⟨_, rfl, ?_, rfl⟩
  unfold ushL
  rw [show (8 * m) % 64 = 8 * m by omega, show z % 18446744073709551616 = z by omega]
  unfold andI
  have hy : 0 ≤ z / 2 ^ (8 * m).toNat := Int.ediv_nonneg z0 (Int.le_of_lt (Int.pow_pos (by decide)))
  generalize z / 2 ^ (8 * m).toNat = y at hy ⊢
  rw [show ((255 : Int) % 4294967296).toNat = 2 ^ 8 - 1 from rfl, Nat.and_two_pow_sub_one_eq_mod]
  omega
theorem c_behind {b st m s : Int} (S : SH sh) (L : LK ct) (ht : mvTurn ct b) (h0 : 0 ≤ st) (h1 : st < 700) (s0 : 0 ≤ s) (s1 : s < ct b 3) (s2 : ct b 3 ≤ 8) : Mt YX4_behind d [.inr (.inr 70), .inl st, .inl m, .inl s] sh sh ct (pI fun r c => r = nextS ct b st m s ∧ c = ct) := by
  have hq : (w32 st).tdiv (w32 7) = st / 7 := by rw [w32_id (by omega) (by omega), td_pos h0]; rfl
  refine Mt.of rfl (Nat.le_of_ble_eq_true rfl) ?_
  show G _ 0 [some (.inr (.inr 70)), some (.inl st), some (.inl m), some (.inl s)] [] sh ct
  refine g_aload_n (q := 1) dX4_behind_0 rfl rfl ?_
  refine g_getA (q := 4) (kI := 5) fX4_23 (by first | assumption | exact S.at _ rfl) dX4_behind_1 rfl rfl (by first | assumption | exact L.at _ _ rfl | exact LK.at (by assumption) _ _ rfl | ((repeat first | rewrite [wr_na (by decide)] | rewrite [wr_nk (by decide)] | rewrite [wa_na (by decide)]); first | assumption | exact LK.at (by assumption) _ _ rfl) | exact rfl) ?_
  refine g_iload_n (q := 5) dX4_behind_4 rfl rfl ?_
  refine g_bipush (q := 7) dX4_behind_5 (by decide +kernel) rfl ?_
  refine g_imul (q := 8) dX4_behind_7 rfl ?_
  refine g_iload_n (q := 9) dX4_behind_8 rfl rfl ?_
  refine g_bipush (q := 11) dX4_behind_9 (by decide +kernel) rfl ?_
  refine g_idiv (q := 12) dX4_behind_11 (by decide) rfl ?_
  rw [hq]
  refine g_iadd (q := 13) dX4_behind_12 rfl ?_
  refine g_iaload (q := 14) (by first | assumption | exact S.at _ rfl) (by omega) (by omega) (by omega) dX4_behind_13 rfl ?_
  refine g_iload_n (q := 15) dX4_behind_14 rfl rfl ?_
  refine g_iadd (q := 16) dX4_behind_15 rfl ?_
  refine g_ireturn dX4_behind_16 rfl ?_
  refine ⟨_, rfl, ?_, rfl⟩
  unfold nextS
  rw [ht s (st / 7) s0 s1 (by omega) (by omega), show st / 7 / 10 = st / 70 by omega]
theorem c_closes {b st : Int} (S : SH sh) (L : LK ct) (hb : bkN b) (h70 : ct 70 0 = b) (hw : bkWf ct b) (ha : askOk (ct 69)) (hc : mvCl ct b) (h0 : 0 ≤ st) (h1 : st < 700) : Mt YX4_closes (d + 2) [.inr (.inr 70), .inl st] sh sh ct (pI fun r c => r = b01 (closesB ct b st = true) ∧ eqBut [68, 69, 73] ct c ∧ askOk (c 69) ∧ mvCl c b) := by
  have bne : b ≠ 73 ∧ b + 4 ≠ 73 ∧ b ∉ [68, 69, 73] ∧ b + 4 ∉ [68, 69, 73] ∧ b ∉ [68, 69] ∧ b + 4 ∉ [68, 69] := by rcases hb with rfl | rfl <;> decide
  refine Mt.of rfl (Nat.le_of_ble_eq_true rfl) ?_
  show G _ 0 [some (.inr (.inr 70)), some (.inl st)] [] sh ct
  have tail : ∀ c : mbCt, eqBut [68, 69, 73] ct c → askOk (c 69) → mvCl c b → c 73 st = (if closesB ct b st = true then 2 else 1) → G (mkK YX4_closes (d + 2) sh sh (pI fun r c => r = b01 (closesB ct b st = true) ∧ eqBut [68, 69, 73] ct c ∧ askOk (c 69) ∧ mvCl c b)) 36 [some (.inr (.inr 70)), some (.inl st)] [] sh c := by
    intro c e1 e2 e3 e4
    have l1 : c 70 4 = 73 := by rw [e1 70 (by decide)]; exact L.at _ _ rfl
    refine g_aload_n (q := 37) dX4_closes_36 rfl rfl ?_
    refine g_getA (q := 40) (kI := 4) fX4_19 (by first | assumption | exact S.at _ rfl) dX4_closes_37 rfl rfl (by first | assumption | exact L.at _ _ rfl | exact LK.at (by assumption) _ _ rfl | ((repeat first | rewrite [wr_na (by decide)] | rewrite [wr_nk (by decide)] | rewrite [wa_na (by decide)]); first | assumption | exact LK.at (by assumption) _ _ rfl) | exact rfl) ?_
    refine g_iload_n (q := 41) dX4_closes_40 rfl rfl ?_
    refine g_baload (q := 42) (by first | assumption | exact S.at _ rfl) (by omega) (by omega) (by omega) dX4_closes_41 rfl ?_
    rw [e4]
    by_cases hcl : closesB ct b st = true
    · rw [if_pos hcl]
      refine g_iconst (q := 43) dX4_closes_42 rfl ?_
      refine g_icmp_ne (q := 46) (tg := 50) dX4_closes_43 (by decide) rfl (fun c_43 => ?_) (fun c_43 => ?_)
      · exact absurd rfl c_43
      · refine g_iconst (q := 47) dX4_closes_46 rfl ?_
        refine g_goto (q := 51) dX4_closes_47 (by decide) ?_
        refine g_zreturn dX4_closes_51 rfl (by decide +kernel) ?_
        exact ⟨_, rfl, b01_t hcl, e1, e2, e3⟩
    · rw [if_neg hcl]
      refine g_iconst (q := 43) dX4_closes_42 rfl ?_
      refine g_icmp_ne (q := 46) (tg := 50) dX4_closes_43 (by decide) rfl (fun c_43 => ?_) (fun c_43 => ?_)
      · refine g_iconst (q := 51) dX4_closes_50 rfl ?_
        refine g_zreturn dX4_closes_51 rfl (by decide +kernel) ?_
        exact ⟨_, rfl, b01_f hcl, e1, e2, e3⟩
      · exact absurd c_43 (by decide)
  refine g_aload_n (q := 1) dX4_closes_0 rfl rfl ?_
  refine g_getA (q := 4) (kI := 4) fX4_19 (by first | assumption | exact S.at _ rfl) dX4_closes_1 rfl rfl (by first | assumption | exact L.at _ _ rfl | exact LK.at (by assumption) _ _ rfl | ((repeat first | rewrite [wr_na (by decide)] | rewrite [wr_nk (by decide)] | rewrite [wa_na (by decide)]); first | assumption | exact LK.at (by assumption) _ _ rfl) | exact rfl) ?_
  refine g_iload_n (q := 5) dX4_closes_4 rfl rfl ?_
  refine g_baload (q := 6) (by first | assumption | exact S.at _ rfl) (by omega) (by omega) (by omega) dX4_closes_5 rfl ?_
  refine g_if_ne (q := 9) (tg := 36) dX4_closes_6 (by decide) rfl (fun c_6 => ?_) (fun c_6 => ?_)
  · refine tail ct eqBut.rf ha hc ?_
    rcases hc st h0 h1 with h | h
    · rw [h] at c_6
      exact absurd rfl c_6
    · exact h
  · refine g_aload_n (q := 10) dX4_closes_9 rfl rfl ?_
    refine g_getA (q := 13) (kI := 4) fX4_19 (by first | assumption | exact S.at _ rfl) dX4_closes_10 rfl rfl (by first | assumption | exact L.at _ _ rfl | exact LK.at (by assumption) _ _ rfl | ((repeat first | rewrite [wr_na (by decide)] | rewrite [wr_nk (by decide)] | rewrite [wa_na (by decide)]); first | assumption | exact LK.at (by assumption) _ _ rfl) | exact rfl) ?_
    refine g_iload_n (q := 14) dX4_closes_13 rfl rfl ?_
    refine g_aload_n (q := 15) dX4_closes_14 rfl rfl ?_
    refine g_getO (q := 18) (kI := 1) fX4_36 (by first | assumption | exact S.at _ rfl) dX4_closes_15 rfl rfl (by first | assumption | exact L.at _ _ rfl | exact LK.at (by assumption) _ _ rfl | ((repeat first | rewrite [wr_na (by decide)] | rewrite [wr_nk (by decide)] | rewrite [wa_na (by decide)]); first | assumption | exact LK.at (by assumption) _ _ rfl) | exact rfl) ?_
    refine g_aload_n (q := 19) dX4_closes_18 rfl rfl ?_
    refine g_getO (q := 22) (kI := 0) fX4_32 (by first | assumption | exact S.at _ rfl) dX4_closes_19 rfl rfl h70 ?_
    refine g_iload_n (q := 23) dX4_closes_22 rfl rfl ?_
    refine g_callV (q := 26) lX4_115 mX7_closesAt nX7_closesAt rfl (c_closesAt d sh ct S L (bk_at S L hb) hw h0 h1 ha) (by first | assumption | exact S.at _ rfl) rfl rfl shLe.rf (rmOk.mk (by omega) (by first | exact shLe.rf | assumption)) (Nat.le_of_ble_eq_true rfl) dX4_closes_23 rfl rfl (kI fun r c hp => ?_)
    obtain ⟨hr, he, hk⟩ := hp
    have hb1 : c b = ct b := he b bne.2.2.2.2.1
    have hb4 : c (b + 4) = ct (b + 4) := he _ bne.2.2.2.2.2
    have fin : ∀ v : Int, v = (if closesB ct b st = true then 2 else 1) → G (mkK YX4_closes (d + 2) sh sh (pI fun r c => r = b01 (closesB ct b st = true) ∧ eqBut [68, 69, 73] ct c ∧ askOk (c 69) ∧ mvCl c b)) 34 [some (.inr (.inr 70)), some (.inl st)] [.inl v, .inl st, .inr (.inr 73)] sh c := by
      intro v hv
      have hv2 : w8 (w8 v) = v := by
        rw [hv]
        split <;> rfl
      refine g_i2b (q := 35) dX4_closes_34 rfl ?_
      refine g_bastore (q := 36) (by first | assumption | exact S.at _ rfl) (by omega) (by omega) (by omega) dX4_closes_35 rfl ?_
      rw [hv2]
      refine tail _ ((he.mono (by simp)).wr (by decide)) ?_ ?_ ?_
      · rw [wr_other _ _ _ _ _ (by decide)]
        exact hk
      · intro s2 g0 g1
        rw [closesB_eq (ct := ct) (by rw [wr_other _ _ _ _ _ bne.1, hb1]) (by rw [wr_other _ _ _ _ _ bne.2.1, hb4])]
        by_cases e : s2 = st
        · subst e
          rw [wr_eq]
          exact Or.inr hv
        · rw [wr_nk e, he 73 (by decide)]
          exact hc s2 g0 g1
      · rw [wr_eq]
        exact hv
    refine g_if_eq (q := 29) (tg := 33) dX4_closes_26 (by decide) rfl (fun c_26 => ?_) (fun c_26 => ?_)
    · have hf : ¬ closesB ct b st = true := by
        intro h
        rw [hr, ← b01_t h] at c_26
        exact absurd c_26 (by decide)
      refine g_iconst (q := 34) dX4_closes_33 rfl ?_
      exact fin 1 (by rw [if_neg hf])
    · have hf : closesB ct b st = true := by
        by_cases h : closesB ct b st = true
        · exact h
        · rw [hr, ← b01_f h] at c_26
          exact absurd rfl c_26
      refine g_iconst (q := 30) dX4_closes_29 rfl ?_
      refine g_goto (q := 34) dX4_closes_30 (by decide) ?_
      exact fin 2 (by rw [if_pos hf])
def endB (ct : mbCt) (b st tone : Int) : Bool := (decide (tone = -1) || decide (st / 70 = tone)) && closesB ct b st
theorem c_isEnd {b st tone : Int} (S : SH sh) (L : LK ct) (hb : bkN b) (h70 : ct 70 0 = b) (hw : bkWf ct b) (ha : askOk (ct 69)) (hc : mvCl ct b) (h0 : 0 ≤ st) (h1 : st < 700) (t0 : -1 ≤ tone) (t1 : tone ≤ 10) : Mt YX4_isEnd (d + 3) [.inr (.inr 70), .inl st, .inl tone] sh sh ct (pI fun r c => r = b01 (endB ct b st tone = true) ∧ eqBut [68, 69, 73] ct c ∧ askOk (c 69) ∧ mvCl c b) := by
  refine Mt.of rfl (Nat.le_of_ble_eq_true rfl) ?_
  show G _ 0 [some (.inr (.inr 70)), some (.inl st), some (.inl tone)] [] sh ct
  have rest : (tone = -1 ∨ st / 70 = tone) → G (mkK YX4_isEnd (d + 3) sh sh (pI fun r c => r = b01 (endB ct b st tone = true) ∧ eqBut [68, 69, 73] ct c ∧ askOk (c 69) ∧ mvCl c b)) 13 [some (.inr (.inr 70)), some (.inl st), some (.inl tone)] [] sh ct := by
    intro ht
    have hq : endB ct b st tone = closesB ct b st := by
      unfold endB
      rcases ht with h | h <;> simp [h]
    rw [hq]
    refine g_aload_n (q := 14) dX4_isEnd_13 rfl rfl ?_
    refine g_iload_n (q := 15) dX4_isEnd_14 rfl rfl ?_
    refine g_callV (q := 18) lX4_122 mX4_closes nX4_closes rfl (c_closes d sh ct S L hb h70 hw ha hc h0 h1) (by first | assumption | exact S.at _ rfl) rfl rfl shLe.rf (rmOk.mk (by omega) (by first | exact shLe.rf | assumption)) (Nat.le_of_ble_eq_true rfl) dX4_isEnd_15 rfl rfl (kI fun r c hp => ?_)
    obtain ⟨hr, he⟩ := hp
    refine g_if_eq (q := 21) (tg := 25) dX4_isEnd_18 (by decide) rfl (fun c_18 => ?_) (fun c_18 => ?_)
    · refine g_iconst (q := 26) dX4_isEnd_25 rfl ?_
      refine g_zreturn dX4_isEnd_26 rfl (by decide +kernel) ?_
      refine ⟨_, rfl, ?_, he⟩
      rcases b01_in (closesB ct b st = true) with h | h
      · exact h.symm
      · rw [hr, h] at c_18
        exact absurd c_18 (by decide)
    · refine g_iconst (q := 22) dX4_isEnd_21 rfl ?_
      refine g_goto (q := 26) dX4_isEnd_22 (by decide) ?_
      refine g_zreturn dX4_isEnd_26 rfl (by decide +kernel) ?_
      refine ⟨_, rfl, ?_, he⟩
      rcases b01_in (closesB ct b st = true) with h | h
      · rw [hr, h] at c_18
        exact absurd rfl c_18
      · exact h.symm
  refine g_iload_n (q := 1) dX4_isEnd_0 rfl rfl ?_
  refine g_iconst (q := 2) dX4_isEnd_1 rfl ?_
  refine g_icmp_eq (q := 5) (tg := 13) dX4_isEnd_2 (by decide) rfl (fun c_2 => ?_) (fun c_2 => ?_)
  · exact rest (Or.inl (by unfold w32 at c_2; omega))
  · refine g_iload_n (q := 6) dX4_isEnd_5 rfl rfl ?_
    refine g_callSN (q := 9) lX4_119 mX11_toneOf sX11_toneOf rfl (c_toneOf (d + 1) sh ct h0 (by omega)) shLe.rf (rmOk.mk (by omega) (by first | exact shLe.rf | assumption)) (Nat.le_of_ble_eq_true rfl) dX4_isEnd_6 rfl rfl (kI fun r c hp => ?_)
    obtain ⟨rfl, rfl⟩ := hp
    refine g_iload_n (q := 10) dX4_isEnd_9 rfl rfl ?_
    refine g_icmp_ne (q := 13) (tg := 25) dX4_isEnd_10 (by decide) rfl (fun c_10 => ?_) (fun c_10 => ?_)
    · refine g_iconst (q := 26) dX4_isEnd_25 rfl ?_
      refine g_zreturn dX4_isEnd_26 rfl (by decide +kernel) ?_
      refine ⟨_, rfl, ?_, eqBut.rf, ha, hc⟩
      apply b01_f
      have e1 : ¬ tone = -1 := by unfold w32 at c_2; omega
      have e2 : ¬ st / 70 = tone := by unfold w32 at c_10; omega
      unfold endB
      simp [e1, e2]
    · exact rest (Or.inr (by unfold w32 at c_10; omega))
end
