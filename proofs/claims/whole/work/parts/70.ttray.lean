/-! the reference: trays, where somebody baulks -/
theorem g_topI {K : mbK} {pc : Nat} {ls : List (Option gV)} {st : List gV} {sh : mbSh} {ct : mbCt} {x y : Int} (h : w32 x = w32 y) (k : G K pc ls (.inl y :: st) sh ct) : G K pc ls (.inl x :: st) sh ct := by
  intro p l e s m args below meth c E C H locs lsv R
  have h2 := k p l e s m args below meth c E C H locs lsv R
  have e1 : tv E (.inl x) = tv E (.inl y) := by
    show Value.int (Int32.ofInt x) = Value.int (Int32.ofInt y)
    rw [(mb_ieq x y).mpr h]
  rw [List.map_cons, e1, ← List.map_cons]
  exact h2
theorem g_topL {K : mbK} {pc : Nat} {ls : List (Option gV)} {st : List gV} {sh : mbSh} {ct : mbCt} {x y : Int} (h : w64 x = w64 y) (k : G K pc ls (.inr (.inl y) :: st) sh ct) : G K pc ls (.inr (.inl x) :: st) sh ct := by
  intro p l e s m args below meth c E C H locs lsv R
  have h2 := k p l e s m args below meth c E C H locs lsv R
  have e1 : tv E (.inr (.inl x)) = tv E (.inr (.inl y)) := by
    show Value.long (Int64.ofInt x) = Value.long (Int64.ofInt y)
    rw [(mb_leq x y).mpr h]
  rw [List.map_cons, e1, ← List.map_cons]
  exact h2
/-- trays: how many numbers (-1: missing), of how many bits, which -/
def MT (ct : mbCt) (sz bt : Int → Int) (vl : Int → Int → Int) : Prop := ∀ t, 0 ≤ t → t < 4 → (sz t = -1 ∧ ct 111 t = -1) ∨ ((0 ≤ sz t ∧ sz t ≤ 40) ∧ ct 112 t = sz t ∧ (0 ≤ ct 111 t ∧ ct 111 t ≤ 3 ∧ bt t = 8 * 2 ^ (ct 111 t).toNat) ∧ ∀ i, 0 ≤ i → i < sz t → ct 113 (40 * t + i) = vl t i ∧ i64 (vl t i))
theorem MT.eq {ct c : mbCt} {sz bt : Int → Int} {vl : Int → Int → Int} (h : MT ct sz bt vl) (e1 : c 111 = ct 111) (e2 : c 112 = ct 112) (e3 : c 113 = ct 113) : MT c sz bt vl := by
  unfold MT
  rw [e1, e2, e3]
  exact h
theorem MT.mf {ct c : mbCt} {sz bt : Int → Int} {vl : Int → Int → Int} (h : MT ct sz bt vl) (e : mF ct c) : MT c sz bt vl := h.eq (e.1 111 (by decide)) (e.1 112 (by decide)) (e.1 113 (by decide))
abbrev okN (β : Bk) (lost u : Int) : Prop := (0 ≤ u ∧ u / 10 < β.n 2 ∧ u % 10 < β.n 3) ∨ (lost = 1 ∧ u = -1)
abbrev isTr (t : Int) : Prop := 0 ≤ t ∧ t < 4
def rowOk (β : Bk) (sz : Int → Int) (vl : Int → Int → Int) (t most lost : Int) : Prop := isTr t ∧ (1 ≤ sz t ∧ sz t ≤ most) ∧ ∀ i, 0 ≤ i → i < sz t → okN β lost (vl t i)
def rowR (β : Bk) (sz : Int → Int) (vl : Int → Int → Int) (t most lost r : Int) : Prop := (¬ isTr t ∧ r = -2) ∨ (isTr t ∧ sz t = -1 ∧ r = -6) ∨ (isTr t ∧ sz t ≠ -1 ∧ ¬ (1 ≤ sz t ∧ sz t ≤ most) ∧ r = -4) ∨ (isTr t ∧ (1 ≤ sz t ∧ sz t ≤ most) ∧ (∃ i, 0 ≤ i ∧ i < sz t ∧ ¬ okN β lost (vl t i)) ∧ r = -3) ∨ (rowOk β sz vl t most lost ∧ r = 0)
theorem rowR.uni {β : Bk} {sz : Int → Int} {vl : Int → Int → Int} {t most lost r r2 : Int} (h : rowR β sz vl t most lost r) (h2 : rowR β sz vl t most lost r2) : r = r2 := by
  rcases h with ⟨a, b⟩ | ⟨a, b, c⟩ | ⟨a, b, c, e⟩ | ⟨a, b, ⟨i, i0, i1, i2⟩, e⟩ | ⟨⟨a, b, c⟩, e⟩ <;> rcases h2 with ⟨a', b'⟩ | ⟨a', b', c'⟩ | ⟨a', b', c', e'⟩ | ⟨a', b', ⟨i', j0, j1, j2⟩, e'⟩ | ⟨⟨a', b', c'⟩, e'⟩ <;> first | omega | exact absurd (c' i i0 i1) i2 | exact absurd (c i' j0 j1) j2
theorem rowR.zero {β : Bk} {sz : Int → Int} {vl : Int → Int → Int} {t most lost : Int} (h : rowR β sz vl t most lost 0) : rowOk β sz vl t most lost := by
  rcases h with ⟨a, b⟩ | ⟨a, b, c⟩ | ⟨a, b, c, e⟩ | ⟨a, b, -, e⟩ | ⟨a, e⟩
  · omega
  · omega
  · omega
  · omega
  · exact a
theorem rowR.rg {β : Bk} {sz : Int → Int} {vl : Int → Int → Int} {t most lost r : Int} (h : rowR β sz vl t most lost r) : -7 ≤ r ∧ r ≤ 0 := by
  rcases h with ⟨a, b⟩ | ⟨a, b, c⟩ | ⟨a, b, c, e⟩ | ⟨a, b, -, e⟩ | ⟨a, e⟩ <;> omega
theorem dX12_noTray_0 : decode cX12_noTray 0 = .ok (.iload_n 1, 1) := by decide +kernel
theorem dX12_noTray_1 : decode cX12_noTray 1 = .ok (.i2l, 1) := by decide +kernel
theorem dX12_noTray_2 : decode cX12_noTray 2 = .ok (.lconst 0, 1) := by decide +kernel
theorem dX12_noTray_3 : decode cX12_noTray 3 = .ok (.ldc2_w 307, 3) := by decide +kernel
theorem dX12_noTray_6 : decode cX12_noTray 6 = .ok (.invokestatic 150, 3) := by decide +kernel
theorem dX12_noTray_9 : decode cX12_noTray 9 = .ok (.ifCond .ne 8, 3) := by decide +kernel
theorem dX12_noTray_12 : decode cX12_noTray 12 = .ok (.bipush (-2), 2) := by decide +kernel
theorem dX12_noTray_14 : decode cX12_noTray 14 = .ok (.goto 19, 3) := by decide +kernel
theorem dX12_noTray_17 : decode cX12_noTray 17 = .ok (.aload_n 0, 1) := by decide +kernel
theorem dX12_noTray_18 : decode cX12_noTray 18 = .ok (.getfield 75, 3) := by decide +kernel
theorem dX12_noTray_21 : decode cX12_noTray 21 = .ok (.iload_n 1, 1) := by decide +kernel
theorem dX12_noTray_22 : decode cX12_noTray 22 = .ok (.iaload, 1) := by decide +kernel
theorem dX12_noTray_23 : decode cX12_noTray 23 = .ok (.iconst (-1), 1) := by decide +kernel
theorem dX12_noTray_24 : decode cX12_noTray 24 = .ok (.if_icmp .ne 8, 3) := by decide +kernel
theorem dX12_noTray_27 : decode cX12_noTray 27 = .ok (.bipush (-6), 2) := by decide +kernel
theorem dX12_noTray_29 : decode cX12_noTray 29 = .ok (.goto 4, 3) := by decide +kernel
theorem dX12_noTray_32 : decode cX12_noTray 32 = .ok (.iconst 0, 1) := by decide +kernel
theorem dX12_noTray_33 : decode cX12_noTray 33 = .ok (.ireturn, 1) := by decide +kernel
theorem dX12_noRow_0 : decode cX12_noRow 0 = .ok (.aload_n 0, 1) := by decide +kernel
theorem dX12_noRow_1 : decode cX12_noRow 1 = .ok (.iload_n 1, 1) := by decide +kernel
theorem dX12_noRow_2 : decode cX12_noRow 2 = .ok (.invokevirtual 309, 3) := by decide +kernel
theorem dX12_noRow_5 : decode cX12_noRow 5 = .ok (.istore 4, 2) := by decide +kernel
theorem dX12_noRow_7 : decode cX12_noRow 7 = .ok (.iload 4, 2) := by decide +kernel
theorem dX12_noRow_9 : decode cX12_noRow 9 = .ok (.ifCond .eq 6, 3) := by decide +kernel
theorem dX12_noRow_12 : decode cX12_noRow 12 = .ok (.iload 4, 2) := by decide +kernel
theorem dX12_noRow_14 : decode cX12_noRow 14 = .ok (.ireturn, 1) := by decide +kernel
theorem dX12_noRow_15 : decode cX12_noRow 15 = .ok (.aload_n 0, 1) := by decide +kernel
theorem dX12_noRow_16 : decode cX12_noRow 16 = .ok (.getfield 78, 3) := by decide +kernel
theorem dX12_noRow_19 : decode cX12_noRow 19 = .ok (.iload_n 1, 1) := by decide +kernel
theorem dX12_noRow_20 : decode cX12_noRow 20 = .ok (.iaload, 1) := by decide +kernel
theorem dX12_noRow_21 : decode cX12_noRow 21 = .ok (.i2l, 1) := by decide +kernel
theorem dX12_noRow_22 : decode cX12_noRow 22 = .ok (.lconst 1, 1) := by decide +kernel
theorem dX12_noRow_23 : decode cX12_noRow 23 = .ok (.iload_n 2, 1) := by decide +kernel
theorem dX12_noRow_24 : decode cX12_noRow 24 = .ok (.i2l, 1) := by decide +kernel
theorem dX12_noRow_25 : decode cX12_noRow 25 = .ok (.invokestatic 150, 3) := by decide +kernel
theorem dX12_noRow_28 : decode cX12_noRow 28 = .ok (.ifCond .ne 6, 3) := by decide +kernel
theorem dX12_noRow_31 : decode cX12_noRow 31 = .ok (.bipush (-4), 2) := by decide +kernel
theorem dX12_noRow_33 : decode cX12_noRow 33 = .ok (.ireturn, 1) := by decide +kernel
theorem dX12_noRow_34 : decode cX12_noRow 34 = .ok (.iconst 0, 1) := by decide +kernel
theorem dX12_noRow_35 : decode cX12_noRow 35 = .ok (.istore 5, 2) := by decide +kernel
theorem dX12_noRow_37 : decode cX12_noRow 37 = .ok (.iload 5, 2) := by decide +kernel
theorem dX12_noRow_39 : decode cX12_noRow 39 = .ok (.aload_n 0, 1) := by decide +kernel
theorem dX12_noRow_40 : decode cX12_noRow 40 = .ok (.getfield 78, 3) := by decide +kernel
theorem dX12_noRow_43 : decode cX12_noRow 43 = .ok (.iload_n 1, 1) := by decide +kernel
theorem dX12_noRow_44 : decode cX12_noRow 44 = .ok (.iaload, 1) := by decide +kernel
theorem dX12_noRow_45 : decode cX12_noRow 45 = .ok (.if_icmp .ge 48, 3) := by decide +kernel
theorem dX12_noRow_48 : decode cX12_noRow 48 = .ok (.aload_n 0, 1) := by decide +kernel
theorem dX12_noRow_49 : decode cX12_noRow 49 = .ok (.getfield 81, 3) := by decide +kernel
theorem dX12_noRow_52 : decode cX12_noRow 52 = .ok (.bipush 40, 2) := by decide +kernel
theorem dX12_noRow_54 : decode cX12_noRow 54 = .ok (.iload_n 1, 1) := by decide +kernel
theorem dX12_noRow_55 : decode cX12_noRow 55 = .ok (.imul, 1) := by decide +kernel
theorem dX12_noRow_56 : decode cX12_noRow 56 = .ok (.iload 5, 2) := by decide +kernel
theorem dX12_noRow_58 : decode cX12_noRow 58 = .ok (.iadd, 1) := by decide +kernel
theorem dX12_noRow_59 : decode cX12_noRow 59 = .ok (.laload, 1) := by decide +kernel
theorem dX12_noRow_60 : decode cX12_noRow 60 = .ok (.lstore 6, 2) := by decide +kernel
theorem dX12_noRow_62 : decode cX12_noRow 62 = .ok (.aload_n 0, 1) := by decide +kernel
theorem dX12_noRow_63 : decode cX12_noRow 63 = .ok (.lload 6, 2) := by decide +kernel
theorem dX12_noRow_65 : decode cX12_noRow 65 = .ok (.invokevirtual 384, 3) := by decide +kernel
theorem dX12_noRow_68 : decode cX12_noRow 68 = .ok (.ifCond .ne 19, 3) := by decide +kernel
theorem dX12_noRow_71 : decode cX12_noRow 71 = .ok (.iload_n 3, 1) := by decide +kernel
theorem dX12_noRow_72 : decode cX12_noRow 72 = .ok (.ifCond .eq 12, 3) := by decide +kernel
theorem dX12_noRow_75 : decode cX12_noRow 75 = .ok (.lload 6, 2) := by decide +kernel
theorem dX12_noRow_77 : decode cX12_noRow 77 = .ok (.ldc2_w 291, 3) := by decide +kernel
theorem dX12_noRow_80 : decode cX12_noRow 80 = .ok (.lcmp, 1) := by decide +kernel
theorem dX12_noRow_81 : decode cX12_noRow 81 = .ok (.ifCond .eq 6, 3) := by decide +kernel
theorem dX12_noRow_84 : decode cX12_noRow 84 = .ok (.bipush (-3), 2) := by decide +kernel
theorem dX12_noRow_86 : decode cX12_noRow 86 = .ok (.ireturn, 1) := by decide +kernel
theorem dX12_noRow_87 : decode cX12_noRow 87 = .ok (.iinc 5 1, 3) := by decide +kernel
theorem dX12_noRow_90 : decode cX12_noRow 90 = .ok (.goto (-53), 3) := by decide +kernel
theorem dX12_noRow_93 : decode cX12_noRow 93 = .ok (.iconst 0, 1) := by decide +kernel
theorem dX12_noRow_94 : decode cX12_noRow 94 = .ok (.ireturn, 1) := by decide +kernel
theorem dX12_minuteIn_0 : decode cX12_minuteIn 0 = .ok (.aload_n 0, 1) := by decide +kernel
theorem dX12_minuteIn_1 : decode cX12_minuteIn 1 = .ok (.getfield 81, 3) := by decide +kernel
theorem dX12_minuteIn_4 : decode cX12_minuteIn 4 = .ok (.bipush 40, 2) := by decide +kernel
theorem dX12_minuteIn_6 : decode cX12_minuteIn 6 = .ok (.iload_n 1, 1) := by decide +kernel
theorem dX12_minuteIn_7 : decode cX12_minuteIn 7 = .ok (.imul, 1) := by decide +kernel
theorem dX12_minuteIn_8 : decode cX12_minuteIn 8 = .ok (.iload_n 2, 1) := by decide +kernel
theorem dX12_minuteIn_9 : decode cX12_minuteIn 9 = .ok (.iadd, 1) := by decide +kernel
theorem dX12_minuteIn_10 : decode cX12_minuteIn 10 = .ok (.laload, 1) := by decide +kernel
theorem dX12_minuteIn_11 : decode cX12_minuteIn 11 = .ok (.l2i, 1) := by decide +kernel
theorem dX12_minuteIn_12 : decode cX12_minuteIn 12 = .ok (.ireturn, 1) := by decide +kernel
theorem dX12_baulks_0 : decode cX12_baulks 0 = .ok (.aload_n 0, 1) := by decide +kernel
theorem dX12_baulks_1 : decode cX12_baulks 1 = .ok (.invokevirtual 251, 3) := by decide +kernel
theorem dX12_baulks_4 : decode cX12_baulks 4 = .ok (.istore_n 2, 1) := by decide +kernel
theorem dX12_baulks_5 : decode cX12_baulks 5 = .ok (.iconst 0, 1) := by decide +kernel
theorem dX12_baulks_6 : decode cX12_baulks 6 = .ok (.istore_n 3, 1) := by decide +kernel
theorem dX12_baulks_7 : decode cX12_baulks 7 = .ok (.iload_n 3, 1) := by decide +kernel
theorem dX12_baulks_8 : decode cX12_baulks 8 = .ok (.aload_n 0, 1) := by decide +kernel
theorem dX12_baulks_9 : decode cX12_baulks 9 = .ok (.getfield 78, 3) := by decide +kernel
theorem dX12_baulks_12 : decode cX12_baulks 12 = .ok (.iload_n 1, 1) := by decide +kernel
theorem dX12_baulks_13 : decode cX12_baulks 13 = .ok (.iaload, 1) := by decide +kernel
theorem dX12_baulks_14 : decode cX12_baulks 14 = .ok (.if_icmp .ge 33, 3) := by decide +kernel
theorem dX12_baulks_17 : decode cX12_baulks 17 = .ok (.aload_n 0, 1) := by decide +kernel
theorem dX12_baulks_18 : decode cX12_baulks 18 = .ok (.getfield 40, 3) := by decide +kernel
theorem dX12_baulks_21 : decode cX12_baulks 21 = .ok (.bipush 100, 2) := by decide +kernel
theorem dX12_baulks_23 : decode cX12_baulks 23 = .ok (.iload_n 2, 1) := by decide +kernel
theorem dX12_baulks_24 : decode cX12_baulks 24 = .ok (.imul, 1) := by decide +kernel
theorem dX12_baulks_25 : decode cX12_baulks 25 = .ok (.aload_n 0, 1) := by decide +kernel
theorem dX12_baulks_26 : decode cX12_baulks 26 = .ok (.iload_n 1, 1) := by decide +kernel
theorem dX12_baulks_27 : decode cX12_baulks 27 = .ok (.iload_n 3, 1) := by decide +kernel
theorem dX12_baulks_28 : decode cX12_baulks 28 = .ok (.invokevirtual 387, 3) := by decide +kernel
theorem dX12_baulks_31 : decode cX12_baulks 31 = .ok (.iadd, 1) := by decide +kernel
theorem dX12_baulks_32 : decode cX12_baulks 32 = .ok (.iaload, 1) := by decide +kernel
theorem dX12_baulks_33 : decode cX12_baulks 33 = .ok (.istore_n 2, 1) := by decide +kernel
theorem dX12_baulks_34 : decode cX12_baulks 34 = .ok (.iload_n 2, 1) := by decide +kernel
theorem dX12_baulks_35 : decode cX12_baulks 35 = .ok (.iconst (-1), 1) := by decide +kernel
theorem dX12_baulks_36 : decode cX12_baulks 36 = .ok (.if_icmp .ne 5, 3) := by decide +kernel
theorem dX12_baulks_39 : decode cX12_baulks 39 = .ok (.iload_n 3, 1) := by decide +kernel
theorem dX12_baulks_40 : decode cX12_baulks 40 = .ok (.ireturn, 1) := by decide +kernel
theorem dX12_baulks_41 : decode cX12_baulks 41 = .ok (.iinc 3 1, 3) := by decide +kernel
theorem dX12_baulks_44 : decode cX12_baulks 44 = .ok (.goto (-37), 3) := by decide +kernel
theorem dX12_baulks_47 : decode cX12_baulks 47 = .ok (.aload_n 0, 1) := by decide +kernel
theorem dX12_baulks_48 : decode cX12_baulks 48 = .ok (.getfield 78, 3) := by decide +kernel
theorem dX12_baulks_51 : decode cX12_baulks 51 = .ok (.iload_n 1, 1) := by decide +kernel
theorem dX12_baulks_52 : decode cX12_baulks 52 = .ok (.iaload, 1) := by decide +kernel
theorem dX12_baulks_53 : decode cX12_baulks 53 = .ok (.ireturn, 1) := by decide +kernel
theorem dX12_baulk_0 : decode cX12_baulk 0 = .ok (.aload_n 0, 1) := by decide +kernel
theorem dX12_baulk_1 : decode cX12_baulk 1 = .ok (.iconst 0, 1) := by decide +kernel
theorem dX12_baulk_2 : decode cX12_baulk 2 = .ok (.putfield 1, 3) := by decide +kernel
theorem dX12_baulk_5 : decode cX12_baulk 5 = .ok (.aload_n 0, 1) := by decide +kernel
theorem dX12_baulk_6 : decode cX12_baulk 6 = .ok (.iload_n 1, 1) := by decide +kernel
theorem dX12_baulk_7 : decode cX12_baulk 7 = .ok (.bipush 12, 2) := by decide +kernel
theorem dX12_baulk_9 : decode cX12_baulk 9 = .ok (.iconst 0, 1) := by decide +kernel
theorem dX12_baulk_10 : decode cX12_baulk 10 = .ok (.invokevirtual 390, 3) := by decide +kernel
theorem dX12_baulk_13 : decode cX12_baulk 13 = .ok (.istore_n 2, 1) := by decide +kernel
theorem dX12_baulk_14 : decode cX12_baulk 14 = .ok (.iload_n 2, 1) := by decide +kernel
theorem dX12_baulk_15 : decode cX12_baulk 15 = .ok (.ifCond .eq 5, 3) := by decide +kernel
theorem dX12_baulk_18 : decode cX12_baulk 18 = .ok (.iload_n 2, 1) := by decide +kernel
theorem dX12_baulk_19 : decode cX12_baulk 19 = .ok (.ireturn, 1) := by decide +kernel
theorem dX12_baulk_20 : decode cX12_baulk 20 = .ok (.aload_n 0, 1) := by decide +kernel
theorem dX12_baulk_21 : decode cX12_baulk 21 = .ok (.invokevirtual 351, 3) := by decide +kernel
theorem dX12_baulk_24 : decode cX12_baulk 24 = .ok (.aload_n 0, 1) := by decide +kernel
theorem dX12_baulk_25 : decode cX12_baulk 25 = .ok (.iload_n 1, 1) := by decide +kernel
theorem dX12_baulk_26 : decode cX12_baulk 26 = .ok (.invokevirtual 393, 3) := by decide +kernel
theorem dX12_baulk_29 : decode cX12_baulk 29 = .ok (.istore_n 3, 1) := by decide +kernel
theorem dX12_baulk_30 : decode cX12_baulk 30 = .ok (.iload_n 3, 1) := by decide +kernel
theorem dX12_baulk_31 : decode cX12_baulk 31 = .ok (.aload_n 0, 1) := by decide +kernel
theorem dX12_baulk_32 : decode cX12_baulk 32 = .ok (.getfield 78, 3) := by decide +kernel
theorem dX12_baulk_35 : decode cX12_baulk 35 = .ok (.iload_n 1, 1) := by decide +kernel
theorem dX12_baulk_36 : decode cX12_baulk 36 = .ok (.iaload, 1) := by decide +kernel
theorem dX12_baulk_37 : decode cX12_baulk 37 = .ok (.if_icmp .ne 7, 3) := by decide +kernel
theorem dX12_baulk_40 : decode cX12_baulk 40 = .ok (.iconst (-1), 1) := by decide +kernel
theorem dX12_baulk_41 : decode cX12_baulk 41 = .ok (.goto 4, 3) := by decide +kernel
theorem dX12_baulk_44 : decode cX12_baulk 44 = .ok (.iload_n 3, 1) := by decide +kernel
theorem dX12_baulk_45 : decode cX12_baulk 45 = .ok (.ireturn, 1) := by decide +kernel
section
variable (d : Nat) (sh : mbSh) (ct : mbCt) {β : Bk} {mk : Int → Int} {st : Int} {sz bt : Int → Int} {vl : Int → Int → Int}
theorem tw_isMinute {x : Int} (M : MD ct β mk st) (S : SH sh) (h : i64 x) : Mt YX12_isMinute (d + 2) [.inr (.inr 92), .inr (.inl x)] sh sh ct (pI fun r c => r = b01 (0 ≤ x ∧ x / 10 < β.n 2 ∧ x % 10 < β.n 3) ∧ c = ct) := by
  have L := M.L
  have hm := M.mem
  unfold i64 at h
  have hx : w64 x = x := w64_id h.1 h.2
  refine Mt.of rfl (Nat.le_of_ble_eq_true rfl) ?_
  show G _ 0 [some (.inr (.inr 92)), some (.inr (.inl x)), none] [] sh ct
  refine g_lload_n (q := 1) dX12_isMinute_0 rfl rfl ?_
  refine g_lconst0 (q := 2) dX12_isMinute_1 rfl ?_
  refine g_ldc2 (q := 5) dX12_isMinute_2 kX12_216 rfl ?_
  refine g_callS (q := 8) lX12_150 mX12_within sX12_within rfl (tw_within (d + 1) sh _) shLe.rf (rmOk.mk (by omega) (by first | exact shLe.rf | assumption)) (Nat.le_of_ble_eq_true rfl) dX12_isMinute_5 rfl rfl (kI fun r_ c_ hp => ?_)
  obtain ⟨hr, hq⟩ := hp
  replace hr := hr.symm
  replace hq := hq.symm
  subst hr hq
  rw [hx, show w64 0 = 0 from rfl, show w64 99 = 99 from rfl]
  refine g_if_eq (q := 11) (tg := 39) dX12_isMinute_8 (by decide) rfl (fun c_8 => ?_) (fun c_8 => ?_)
  · have h8 := wb0.mp c_8
    refine g_iconst (q := 40) dX12_isMinute_39 rfl ?_
    refine g_zreturn dX12_isMinute_40 rfl (by decide +kernel) ?_
    exact ⟨_, rfl, b01_f (by omega), rfl⟩
  · have h8 := wbn.mp c_8
    have e1 : (w64 x).tdiv (w64 10) = x / 10 := by rw [hx, td_pos h8.1]; rfl
    have e2 : (w64 x).tmod (w64 10) = x % 10 := by rw [hx, tm_pos h8.1]; rfl
    refine g_aload_n (q := 12) dX12_isMinute_11 rfl rfl ?_
    refine g_lload_n (q := 13) dX12_isMinute_12 rfl rfl ?_
    refine g_ldc2 (q := 16) dX12_isMinute_13 kX12_218 rfl ?_
    refine g_ldiv (q := 17) dX12_isMinute_16 (by decide) rfl ?_
    rw [e1]
    refine g_callV (q := 20) lX12_220 mX12_isMember nX12_isMember rfl (tw_isMember d sh _ M S (by unfold i64; omega)) (by first | assumption | exact S.at _ rfl) rfl rfl shLe.rf (rmOk.mk (by omega) (by first | exact shLe.rf | assumption)) (Nat.le_of_ble_eq_true rfl) dX12_isMinute_17 rfl rfl (kI fun r_ c_ hp => ?_)
    obtain ⟨hr, hq⟩ := hp
    replace hr := hr.symm
    replace hq := hq.symm
    subst hr hq
    refine g_if_eq (q := 23) (tg := 39) dX12_isMinute_20 (by decide) rfl (fun c_20 => ?_) (fun c_20 => ?_)
    · have h20 := wb0.mp c_20
      refine g_iconst (q := 40) dX12_isMinute_39 rfl ?_
      refine g_zreturn dX12_isMinute_40 rfl (by decide +kernel) ?_
      exact ⟨_, rfl, b01_f (by omega), rfl⟩
    · have h20 := wbn.mp c_20
      refine g_aload_n (q := 24) dX12_isMinute_23 rfl rfl ?_
      refine g_lload_n (q := 25) dX12_isMinute_24 rfl rfl ?_
      refine g_ldc2 (q := 28) dX12_isMinute_25 kX12_218 rfl ?_
      refine g_lrem (q := 29) dX12_isMinute_28 (by decide) rfl ?_
      rw [e2]
      refine g_callV (q := 32) lX12_224 mX12_isSaying nX12_isSaying rfl (tw_isSaying d sh _ M S (by unfold i64; omega)) (by first | assumption | exact S.at _ rfl) rfl rfl shLe.rf (rmOk.mk (by omega) (by first | exact shLe.rf | assumption)) (Nat.le_of_ble_eq_true rfl) dX12_isMinute_29 rfl rfl (kI fun r_ c_ hp => ?_)
      obtain ⟨hr, hq⟩ := hp
      replace hr := hr.symm
      replace hq := hq.symm
      subst hr hq
      refine g_if_eq (q := 35) (tg := 39) dX12_isMinute_32 (by decide) rfl (fun c_32 => ?_) (fun c_32 => ?_)
      · have h32 := wb0.mp c_32
        refine g_iconst (q := 40) dX12_isMinute_39 rfl ?_
        refine g_zreturn dX12_isMinute_40 rfl (by decide +kernel) ?_
        exact ⟨_, rfl, b01_f (by omega), rfl⟩
      · have h32 := wbn.mp c_32
        refine g_iconst (q := 36) dX12_isMinute_35 rfl ?_
        refine g_goto (q := 40) dX12_isMinute_36 (by decide) ?_
        refine g_zreturn dX12_isMinute_40 rfl (by decide +kernel) ?_
        exact ⟨_, rfl, b01_t (by omega), rfl⟩
theorem tw_noTray {t : Int} (S : SH sh) (L : LK ct) (T : MT ct sz bt vl) (ht : i32 t) : Mt YX12_noTray (d + 1) [.inr (.inr 92), .inl t] sh sh ct (pI fun r c => r = (if isTr t then (if sz t = -1 then -6 else 0) else -2) ∧ c = ct) := by
  unfold i32 at ht
  have hw : w32 t = t := w32_id ht.1 ht.2
  refine Mt.of rfl (Nat.le_of_ble_eq_true rfl) ?_
  show G _ 0 [some (.inr (.inr 92)), some (.inl t)] [] sh ct
  refine g_iload_n (q := 1) dX12_noTray_0 rfl rfl ?_
  refine g_i2l (q := 2) dX12_noTray_1 rfl ?_
  refine g_lconst0 (q := 3) dX12_noTray_2 rfl ?_
  refine g_ldc2 (q := 6) dX12_noTray_3 kX12_307 rfl ?_
  rw [hw]
  refine g_callS (q := 9) lX12_150 mX12_within sX12_within rfl (tw_within d sh _) shLe.rf (rmOk.mk (by omega) (by first | exact shLe.rf | assumption)) (Nat.le_of_ble_eq_true rfl) dX12_noTray_6 rfl rfl (kI fun r_ c_ hp => ?_)
  obtain ⟨hr, hq⟩ := hp
  replace hr := hr.symm
  replace hq := hq.symm
  subst hr hq
  refine g_if_ne (q := 12) (tg := 17) dX12_noTray_9 (by decide) rfl (fun c_9 => ?_) (fun c_9 => ?_)
  · have h9 : isTr t := by
      have := wbn.mp c_9
      unfold w64 at this
      unfold isTr
      omega
    refine g_aload_n (q := 18) dX12_noTray_17 rfl rfl ?_
    refine g_getA (q := 21) (kI := 32) fX12_75 (by first | assumption | exact S.at _ rfl) dX12_noTray_18 rfl rfl (by first | assumption | exact L.at _ _ rfl | exact LK.at (by assumption) _ _ rfl | ((repeat first | rewrite [wr_na (by decide)] | rewrite [wr_nk (by decide)] | rewrite [wa_na (by decide)]); first | assumption | exact LK.at (by assumption) _ _ rfl) | exact rfl) ?_
    refine g_iload_n (q := 22) dX12_noTray_21 rfl rfl ?_
    have hT := T t h9.1 h9.2
    refine g_iaload (q := 23) (by first | assumption | exact S.at _ rfl) (by omega) (by omega) (by omega) dX12_noTray_22 rfl ?_
    refine g_iconst (q := 24) dX12_noTray_23 rfl ?_
    refine g_icmp_ne (q := 27) (tg := 32) dX12_noTray_24 (by decide) rfl (fun c_24 => ?_) (fun c_24 => ?_)
    · refine g_iconst (q := 33) dX12_noTray_32 rfl ?_
      refine g_ireturn dX12_noTray_33 rfl ?_
      refine ⟨_, rfl, ?_, rfl⟩
      rw [if_pos h9]
      rcases hT with ⟨a, b⟩ | ⟨a, b, e, f⟩
      · exact absurd (by rw [b]) c_24
      · rw [if_neg (by omega)]
    · refine g_bipush (q := 29) dX12_noTray_27 (by decide +kernel) rfl ?_
      refine g_goto (q := 33) dX12_noTray_29 (by decide) ?_
      refine g_ireturn dX12_noTray_33 rfl ?_
      refine ⟨_, rfl, ?_, rfl⟩
      rw [if_pos h9]
      rcases hT with ⟨a, b⟩ | ⟨a, b, e, f⟩
      · rw [if_pos a]
      · unfold w32 at c_24
        omega
  · have h9 : ¬ isTr t := by
      have := wb0.mp c_9
      unfold w64 at this
      unfold isTr
      omega
    refine g_bipush (q := 14) dX12_noTray_12 (by decide +kernel) rfl ?_
    refine g_goto (q := 33) dX12_noTray_14 (by decide) ?_
    refine g_ireturn dX12_noTray_33 rfl ?_
    exact ⟨_, rfl, by rw [if_neg h9], rfl⟩
theorem tw_noRow {t most lost : Int} (S : SH sh) (M : MD ct β mk st) (T : MT ct sz bt vl) (ht : i32 t) (hm : 0 ≤ most ∧ most ≤ 100) (hl : lost = 0 ∨ lost = 1) : Mt YX12_noRow (d + 3) [.inr (.inr 92), .inl t, .inl most, .inl lost] sh sh ct (pI fun r c => rowR β sz vl t most lost r ∧ c = ct) := by
  have L := M.L
  generalize hP : (pI fun r c => rowR β sz vl t most lost r ∧ c = ct) = Po
  have s113 : shA sh 113 = some (21, 160) := S.at _ rfl
  refine Mt.of rfl (Nat.le_of_ble_eq_true rfl) ?_
  show G _ 0 [some (.inr (.inr 92)), some (.inl t), some (.inl most), some (.inl lost), none, none, none, none] [] sh ct
  refine g_aload_n (q := 1) dX12_noRow_0 rfl rfl ?_
  refine g_iload_n (q := 2) dX12_noRow_1 rfl rfl ?_
  refine g_callV (q := 5) lX12_309 mX12_noTray nX12_noTray rfl (tw_noTray (d + 1) sh _ S L T ht) (by first | assumption | exact S.at _ rfl) rfl rfl shLe.rf (rmOk.mk (by omega) (by first | exact shLe.rf | assumption)) (Nat.le_of_ble_eq_true rfl) dX12_noRow_2 rfl rfl (kI fun r_ c_ hp => ?_)
  obtain ⟨hr, hq⟩ := hp
  replace hr := hr.symm
  replace hq := hq.symm
  subst hr hq
  by_cases hi : isTr t
  · rw [if_pos hi]
    have hT := T t hi.1 hi.2
    by_cases hz : sz t = -1
    · rw [if_pos hz]
      refine s_istore_8_4 (q := 7) dX12_noRow_5 rfl rfl rfl ?_
      refine g_iload (q := 9) dX12_noRow_7 rfl rfl ?_
      refine g_if_eq (q := 12) (tg := 15) dX12_noRow_9 (by decide) rfl (fun c_9 => ?_) (fun c_9 => ?_)
      · exact absurd c_9 (by decide)
      · refine g_iload (q := 14) dX12_noRow_12 rfl rfl ?_
        refine g_ireturn dX12_noRow_14 rfl ?_
        rw [← hP]
        exact ⟨_, rfl, Or.inr (Or.inl ⟨hi, hz, rfl⟩), rfl⟩
    · rw [if_neg hz]
      obtain ⟨a, b, e, f⟩ := hT.resolve_left (fun z => hz z.1)
      refine s_istore_8_4 (q := 7) dX12_noRow_5 rfl rfl rfl ?_
      refine g_iload (q := 9) dX12_noRow_7 rfl rfl ?_
      refine g_if_eq (q := 12) (tg := 15) dX12_noRow_9 (by decide) rfl (fun c_9 => ?_) (fun c_9 => ?_)
      · refine g_aload_n (q := 16) dX12_noRow_15 rfl rfl ?_
        refine g_getA (q := 19) (kI := 33) fX12_78 (by first | assumption | exact S.at _ rfl) dX12_noRow_16 rfl rfl (by first | assumption | exact L.at _ _ rfl | exact LK.at (by assumption) _ _ rfl | ((repeat first | rewrite [wr_na (by decide)] | rewrite [wr_nk (by decide)] | rewrite [wa_na (by decide)]); first | assumption | exact LK.at (by assumption) _ _ rfl) | exact rfl) ?_
        refine g_iload_n (q := 20) dX12_noRow_19 rfl rfl ?_
        refine g_iaload (q := 21) (by first | assumption | exact S.at _ rfl) (by omega) (by omega) (by omega) dX12_noRow_20 rfl ?_
        refine g_i2l (q := 22) dX12_noRow_21 rfl ?_
        refine g_lconst1 (q := 23) dX12_noRow_22 rfl ?_
        refine g_iload_n (q := 24) dX12_noRow_23 rfl rfl ?_
        refine g_i2l (q := 25) dX12_noRow_24 rfl ?_
        rw [b, w32_id (x := sz t) (by omega) (by omega), w32_id (x := most) (by omega) (by omega)]
        refine g_callS (q := 28) lX12_150 mX12_within sX12_within rfl (tw_within (d + 2) sh _) shLe.rf (rmOk.mk (by omega) (by first | exact shLe.rf | assumption)) (Nat.le_of_ble_eq_true rfl) dX12_noRow_25 rfl rfl (kI fun r_ c_ hp => ?_)
        obtain ⟨hr, hq⟩ := hp
        replace hr := hr.symm
        replace hq := hq.symm
        subst hr hq
        refine g_if_ne (q := 31) (tg := 34) dX12_noRow_28 (by decide) rfl (fun c_28 => ?_) (fun c_28 => ?_)
        · have h28 : 1 ≤ sz t ∧ sz t ≤ most := by
            have := wbn.mp c_28
            unfold w64 at this
            omega
          refine g_iconst (q := 35) dX12_noRow_34 rfl ?_
          refine s_istore_8_5 (q := 37) dX12_noRow_35 rfl rfl rfl ?_
          refine g_for (fun i => [some (.inr (.inr 92)), some (.inl t), some (.inl most), some (.inl lost), some (.inl 0), some (.inl i), none, none]) (fun i c => 0 ≤ i ∧ c = ct ∧ ∀ j, 0 ≤ j → j < i → okN β lost (vl t j)) (sz t) ?_ ?_ (i := 0) (by omega) ⟨by omega, rfl, fun j _ _ => by omega⟩ (by simp [lsSub])
          · rintro i c hk ⟨i0, hc, ih⟩ kk
            subst hc
            have hf := f i i0 hk
            have hi2 := hf.2
            unfold i64 at hi2
            have good : okN β lost (vl t i) → ∀ o6 o7, G (mkK YX12_noRow (d + 3) sh sh Po) 87 [some (.inr (.inr 92)), some (.inl t), some (.inl most), some (.inl lost), some (.inl 0), some (.inl i), o6, o7] [] sh c := by
              intro h o6 o7
              refine s_iinc_8_5 (q := 90) dX12_noRow_87 rfl rfl rfl ?_
              refine g_goto (q := 37) dX12_noRow_90 (by decide) ?_
              refine kk _ _ (by simp [lsSub]) ⟨by omega, rfl, fun j a b => ?_⟩
              by_cases hj : j = i
              · subst hj
                exact h
              · exact ih j a (by omega)
            refine g_iload (q := 39) dX12_noRow_37 rfl rfl ?_
            refine g_aload_n (q := 40) dX12_noRow_39 rfl rfl ?_
            refine g_getA (q := 43) (kI := 33) fX12_78 (by first | assumption | exact S.at _ rfl) dX12_noRow_40 rfl rfl (by first | assumption | exact L.at _ _ rfl | exact LK.at (by assumption) _ _ rfl | ((repeat first | rewrite [wr_na (by decide)] | rewrite [wr_nk (by decide)] | rewrite [wa_na (by decide)]); first | assumption | exact LK.at (by assumption) _ _ rfl) | exact rfl) ?_
            refine g_iload_n (q := 44) dX12_noRow_43 rfl rfl ?_
            refine g_iaload (q := 45) (by first | assumption | exact S.at _ rfl) (by omega) (by omega) (by omega) dX12_noRow_44 rfl ?_
            refine g_icmp_ge (q := 48) (tg := 93) dX12_noRow_45 (by decide) rfl (fun c_45 => ?_) (fun c_45 => ?_)
            · rw [b] at c_45
              exact absurd c_45 (by unfold w32; omega)
            · refine g_aload_n (q := 49) dX12_noRow_48 rfl rfl ?_
              refine g_getA (q := 52) (kI := 34) fX12_81 (by first | assumption | exact S.at _ rfl) dX12_noRow_49 rfl rfl (by first | assumption | exact L.at _ _ rfl | exact LK.at (by assumption) _ _ rfl | ((repeat first | rewrite [wr_na (by decide)] | rewrite [wr_nk (by decide)] | rewrite [wa_na (by decide)]); first | assumption | exact LK.at (by assumption) _ _ rfl) | exact rfl) ?_
              refine g_bipush (q := 54) dX12_noRow_52 (by decide +kernel) rfl ?_
              refine g_iload_n (q := 55) dX12_noRow_54 rfl rfl ?_
              refine g_imul (q := 56) dX12_noRow_55 rfl ?_
              refine g_iload (q := 58) dX12_noRow_56 rfl rfl ?_
              refine g_iadd (q := 59) dX12_noRow_58 rfl ?_
              refine g_laload (q := 60) (by first | assumption | exact S.at _ rfl) (by omega) (by omega) (by omega) dX12_noRow_59 rfl ?_
              refine s_lstore_8_6 (q := 62) dX12_noRow_60 rfl rfl rfl ?_
              refine g_aload_n (q := 63) dX12_noRow_62 rfl rfl ?_
              refine g_lload (q := 65) dX12_noRow_63 rfl rfl ?_
              rw [hf.1]
              refine g_callV (q := 68) lX12_384 mX12_isMinute nX12_isMinute rfl (tw_isMinute (d + 0) sh _ M S hf.2) (by first | assumption | exact S.at _ rfl) rfl rfl shLe.rf (rmOk.mk (by omega) (by first | exact shLe.rf | assumption)) (Nat.le_of_ble_eq_true rfl) dX12_noRow_65 rfl rfl (kI fun r_ c_ hp => ?_)
              obtain ⟨hr, hq⟩ := hp
              replace hr := hr.symm
              replace hq := hq.symm
              subst hr hq
              refine g_if_ne (q := 71) (tg := 87) dX12_noRow_68 (by decide) rfl (fun c_68 => ?_) (fun c_68 => ?_)
              · exact good (Or.inl (wbn.mp c_68)) _ _
              · have h68 := wb0.mp c_68
                have bad : ¬ (lost = 1 ∧ vl t i = -1) → Po (some (.inl (-3))) c := by
                  intro h
                  rw [← hP]
                  exact ⟨_, rfl, Or.inr (Or.inr (Or.inr (Or.inl ⟨hi, h28, ⟨i, i0, hk, fun z => z.elim h68 h⟩, rfl⟩))), rfl⟩
                refine g_iload_n (q := 72) dX12_noRow_71 rfl rfl ?_
                refine g_if_eq (q := 75) (tg := 84) dX12_noRow_72 (by decide) rfl (fun c_72 => ?_) (fun c_72 => ?_)
                · refine g_bipush (q := 86) dX12_noRow_84 (by decide +kernel) rfl ?_
                  refine g_ireturn dX12_noRow_86 rfl ?_
                  exact bad (fun z => by rw [z.1] at c_72; exact absurd c_72 (by decide))
                · refine g_lload (q := 77) dX12_noRow_75 rfl rfl ?_
                  refine g_ldc2 (q := 80) dX12_noRow_77 kX12_291 rfl ?_
                  refine g_lcmp (q := 81) dX12_noRow_80 rfl ?_
                  refine g_if_eq (q := 84) (tg := 87) dX12_noRow_81 (by decide) rfl (fun c_81 => ?_) (fun c_81 => ?_)
                  · have := cmp_eq.mp c_81
                    rw [w64_id hi2.1 hi2.2, show w64 (-1) = -1 from rfl] at this
                    refine good (Or.inr ⟨?_, this⟩) _ _
                    rcases hl with h | h
                    · rw [h] at c_72
                      exact absurd rfl c_72
                    · exact h
                  · refine g_bipush (q := 86) dX12_noRow_84 (by decide +kernel) rfl ?_
                    refine g_ireturn dX12_noRow_86 rfl ?_
                    exact bad (fun z => c_81 (cmp_eq.mpr (by rw [z.2])))
          · rintro c ⟨-, hc, ih⟩
            subst hc
            refine g_iload (q := 39) dX12_noRow_37 rfl rfl ?_
            refine g_aload_n (q := 40) dX12_noRow_39 rfl rfl ?_
            refine g_getA (q := 43) (kI := 33) fX12_78 (by first | assumption | exact S.at _ rfl) dX12_noRow_40 rfl rfl (by first | assumption | exact L.at _ _ rfl | exact LK.at (by assumption) _ _ rfl | ((repeat first | rewrite [wr_na (by decide)] | rewrite [wr_nk (by decide)] | rewrite [wa_na (by decide)]); first | assumption | exact LK.at (by assumption) _ _ rfl) | exact rfl) ?_
            refine g_iload_n (q := 44) dX12_noRow_43 rfl rfl ?_
            refine g_iaload (q := 45) (by first | assumption | exact S.at _ rfl) (by omega) (by omega) (by omega) dX12_noRow_44 rfl ?_
            refine g_icmp_ge (q := 48) (tg := 93) dX12_noRow_45 (by decide) rfl (fun c_45 => ?_) (fun c_45 => ?_)
            · refine g_iconst (q := 94) dX12_noRow_93 rfl ?_
              refine g_ireturn dX12_noRow_94 rfl ?_
              rw [← hP]
              exact ⟨_, rfl, Or.inr (Or.inr (Or.inr (Or.inr ⟨⟨hi, h28, ih⟩, rfl⟩))), rfl⟩
            · rw [b] at c_45
              exact absurd c_45 (Int.lt_irrefl _)
        · have h28 : ¬ (1 ≤ sz t ∧ sz t ≤ most) := by
            have := wb0.mp c_28
            unfold w64 at this
            omega
          refine g_bipush (q := 33) dX12_noRow_31 (by decide +kernel) rfl ?_
          refine g_ireturn dX12_noRow_33 rfl ?_
          rw [← hP]
          exact ⟨_, rfl, Or.inr (Or.inr (Or.inl ⟨hi, hz, h28, rfl⟩)), rfl⟩
      · exact absurd rfl c_9
  · rw [if_neg hi]
    refine s_istore_8_4 (q := 7) dX12_noRow_5 rfl rfl rfl ?_
    refine g_iload (q := 9) dX12_noRow_7 rfl rfl ?_
    refine g_if_eq (q := 12) (tg := 15) dX12_noRow_9 (by decide) rfl (fun c_9 => ?_) (fun c_9 => ?_)
    · exact absurd c_9 (by decide)
    · refine g_iload (q := 14) dX12_noRow_12 rfl rfl ?_
      refine g_ireturn dX12_noRow_14 rfl ?_
      rw [← hP]
      exact ⟨_, rfl, Or.inl ⟨hi, rfl⟩, rfl⟩
/-- a row that is told, as a function of the places -/
def rowT (ct : mbCt) (t : Int) (n : Nat) (tl : Int → Int) : Prop := isTr t ∧ n ≤ 40 ∧ ct 112 t = n ∧ ∀ i : Nat, i < n → ct 113 (40 * t + i) = tl i ∧ -1 ≤ tl i ∧ tl i < 100
theorem rowOk.row {most lost t : Int} {n : Nat} {tl : Int → Int} (h : rowOk β sz vl t most lost) (hB : bkB β) (T : MT ct sz bt vl) (hn : (n : Int) = sz t) (htl : ∀ i : Nat, i < n → tl i = vl t i) : rowT ct t n tl ∧ ∀ i : Nat, i < n → okN β lost (tl i) := by
  obtain ⟨h1, h2, h3⟩ := h
  rcases T t h1.1 h1.2 with ⟨a, b⟩ | ⟨a, b, e, f⟩
  · omega
  · have hB2 := hB.2.2.1
    refine ⟨⟨h1, by omega, by rw [b, hn], fun i hi => ?_⟩, fun i hi => ?_⟩
    · rw [htl i hi]
      refine ⟨(f i (by omega) (by omega)).1, ?_⟩
      rcases h3 i (by omega) (by omega) with g | g <;> omega
    · rw [htl i hi]
      exact h3 i (by omega) (by omega)
theorem rowT.eq {c : mbCt} {t : Int} {n : Nat} {tl : Int → Int} (h : rowT ct t n tl) (e2 : c 112 = ct 112) (e3 : c 113 = ct 113) : rowT c t n tl := by
  unfold rowT
  rw [e2, e3]
  exact h
theorem tw_minuteIn {t : Int} {n k : Nat} {tl : Int → Int} (S : SH sh) (L : LK ct) (R : rowT ct t n tl) (hk : k < n) : Mt YX12_minuteIn d [.inr (.inr 92), .inl t, .inl k] sh sh ct (pI fun r c => r = tl k ∧ c = ct) := by
  obtain ⟨h1, h2, h3, h4⟩ := R
  have := h4 k hk
  have s113 : shA sh 113 = some (21, 160) := S.at _ rfl
  refine Mt.of rfl (Nat.le_of_ble_eq_true rfl) ?_
  show G _ 0 [some (.inr (.inr 92)), some (.inl t), some (.inl (k : Int))] [] sh ct
  refine g_aload_n (q := 1) dX12_minuteIn_0 rfl rfl ?_
  refine g_getA (q := 4) (kI := 34) fX12_81 (by first | assumption | exact S.at _ rfl) dX12_minuteIn_1 rfl rfl (by first | assumption | exact L.at _ _ rfl | exact LK.at (by assumption) _ _ rfl | ((repeat first | rewrite [wr_na (by decide)] | rewrite [wr_nk (by decide)] | rewrite [wa_na (by decide)]); first | assumption | exact LK.at (by assumption) _ _ rfl) | exact rfl) ?_
  refine g_bipush (q := 6) dX12_minuteIn_4 (by decide +kernel) rfl ?_
  refine g_iload_n (q := 7) dX12_minuteIn_6 rfl rfl ?_
  refine g_imul (q := 8) dX12_minuteIn_7 rfl ?_
  refine g_iload_n (q := 9) dX12_minuteIn_8 rfl rfl ?_
  refine g_iadd (q := 10) dX12_minuteIn_9 rfl ?_
  refine g_laload (q := 11) (by first | assumption | exact S.at _ rfl) (by omega) (by omega) (by omega) dX12_minuteIn_10 rfl ?_
  refine g_l2i (q := 12) dX12_minuteIn_11 rfl ?_
  refine g_ireturn dX12_minuteIn_12 rfl ?_
  exact ⟨_, rfl, this.1, rfl⟩
theorem can_ld (hB : bkB β) {x u : Int} (hu : 0 ≤ u ∧ u / 10 < β.n 2 ∧ u % 10 < β.n 3) : ldP β mk (-1) (-1) 9 x u ↔ u ≠ -1 ∧ canB β mk x (tIdx u) = true := by
  have hb2 := hB.2.2.1
  have hb3 := hB.2.2.2.1
  have hi : tIdx u < 48 := by unfold tIdx; omega
  have hm : mnt (tIdx u) = u := by unfold tIdx mnt; omega
  have h := ld_al (β := β) (mk := mk) (x := x) (useN_ok (-1) (-1)) (cap := 9) (by decide) hi
  rw [hm] at h
  rw [h]
  unfold alB
  have hu2 : (useN (-1) (-1)).testBit (tIdx u) = true := (useN_ok (-1) (-1) _ hi).mpr ⟨by omega, by omega⟩
  have hc : coolB 9 (nxB β x (tIdx u / 8 : Nat) (tIdx u % 8 : Nat)) = true := rfl
  rw [hc, Nat.testBit_and, hu2, msN_bit]
  simp [hi]
  omega
theorem tw_baulks {t : Int} {n : Nat} {tl : Int → Int} (S : SH sh) (M : MD ct β mk st) (D : LD ct β mk (-1) (-1) 9) (R : rowT ct t n tl) (hr : ∀ i : Nat, i < n → okN β 0 (tl i)) : Mt YX12_baulks (d + 1) [.inr (.inr 92), .inl t] sh sh ct (pI fun r c => (if r = n then -1 else r) = fbS β mk tl n n st ∧ (0 ≤ r ∧ r ≤ n) ∧ c = ct) := by
  have L := M.L
  have hB := M.B
  have hrg := M.rg
  have hR := R
  obtain ⟨h1, h2, h3, h4⟩ := hR
  have s100 : shA sh 100 = some (20, 70000) := S.at _ rfl
  generalize hP : (pI fun r c => (if r = n then -1 else r) = fbS β mk tl n n st ∧ (0 ≤ r ∧ r ≤ n) ∧ c = ct) = Po
  refine Mt.of rfl (Nat.le_of_ble_eq_true rfl) ?_
  show G _ 0 [some (.inr (.inr 92)), some (.inl t), none, none] [] sh ct
  refine g_aload_n (q := 1) dX12_baulks_0 rfl rfl ?_
  refine g_callV (q := 4) lX12_251 mX12_standNow nX12_standNow rfl (tw_standNow d sh _ M S) (by first | assumption | exact S.at _ rfl) rfl rfl shLe.rf (rmOk.mk (by omega) (by first | exact shLe.rf | assumption)) (Nat.le_of_ble_eq_true rfl) dX12_baulks_1 rfl rfl (kI fun r_ c_ hp => ?_)
  obtain ⟨hr, hq⟩ := hp
  replace hr := hr.symm
  replace hq := hq.symm
  subst hr hq
  refine s_istore_n_4_2 (q := 5) dX12_baulks_4 rfl rfl rfl ?_
  refine g_iconst (q := 6) dX12_baulks_5 rfl ?_
  refine s_istore_n_4_3 (q := 7) dX12_baulks_6 rfl rfl rfl ?_
  refine g_forA (α := Int) (fun k x => [some (.inr (.inr 92)), some (.inl t), some (.inl x), some (.inl k)]) (fun k x c => 0 ≤ k ∧ (0 ≤ x ∧ x < 700) ∧ c = ct ∧ fbS β mk tl n (n - k.toNat) x = fbS β mk tl n n st) n ?_ ?_ (i := 0) (a := st) (by omega) ⟨by omega, hrg, rfl, rfl⟩ (by simp [lsSub])
  · rintro k x c hk ⟨k0, ⟨x0, x1⟩, hc, hf⟩ kk
    subst hc
    have ek : ((k.toNat : Nat) : Int) = k := by omega
    have hkn : k.toNat < n := by omega
    have hok := hr k.toNat hkn
    have h4k := h4 k.toNat hkn
    rw [ek] at hok h4k
    have hok2 : 0 ≤ tl k ∧ tl k / 10 < β.n 2 ∧ tl k % 10 < β.n 3 := by
      rcases hok with h | h
      · exact h
      · omega
    rw [fbS_s hkn, ek] at hf
    have hld := D.at x0 x1 hok2.1 h4k.2.2
    have hp := ldV_p (β := β) (mk := mk) (qu := -1) (un := -1) (mo := 9) (x := x) hok2.1
    have hcl := can_ld (mk := mk) (x := x) hB hok2
    refine g_iload_n (q := 8) dX12_baulks_7 rfl rfl ?_
    refine g_aload_n (q := 9) dX12_baulks_8 rfl rfl ?_
    refine g_getA (q := 12) (kI := 33) fX12_78 (by first | assumption | exact S.at _ rfl) dX12_baulks_9 rfl rfl (by first | assumption | exact L.at _ _ rfl | exact LK.at (by assumption) _ _ rfl | ((repeat first | rewrite [wr_na (by decide)] | rewrite [wr_nk (by decide)] | rewrite [wa_na (by decide)]); first | assumption | exact LK.at (by assumption) _ _ rfl) | exact rfl) ?_
    refine g_iload_n (q := 13) dX12_baulks_12 rfl rfl ?_
    refine g_iaload (q := 14) (by first | assumption | exact S.at _ rfl) (by omega) (by omega) (by omega) dX12_baulks_13 rfl ?_
    refine g_icmp_ge (q := 17) (tg := 47) dX12_baulks_14 (by decide) rfl (fun c_14 => ?_) (fun c_14 => ?_)
    · rw [h3] at c_14
      exact absurd c_14 (by unfold w32; omega)
    · refine g_aload_n (q := 18) dX12_baulks_17 rfl rfl ?_
      refine g_getA (q := 21) (kI := 21) fX12_40 (by first | assumption | exact S.at _ rfl) dX12_baulks_18 rfl rfl (by first | assumption | exact L.at _ _ rfl | exact LK.at (by assumption) _ _ rfl | ((repeat first | rewrite [wr_na (by decide)] | rewrite [wr_nk (by decide)] | rewrite [wa_na (by decide)]); first | assumption | exact LK.at (by assumption) _ _ rfl) | exact rfl) ?_
      refine g_bipush (q := 23) dX12_baulks_21 (by decide +kernel) rfl ?_
      refine g_iload_n (q := 24) dX12_baulks_23 rfl rfl ?_
      refine g_imul (q := 25) dX12_baulks_24 rfl ?_
      refine g_aload_n (q := 26) dX12_baulks_25 rfl rfl ?_
      refine g_iload_n (q := 27) dX12_baulks_26 rfl rfl ?_
      refine g_iload_n (q := 28) dX12_baulks_27 rfl rfl ?_
      have hmi := tw_minuteIn d sh c (k := k.toNat) S L R hkn
      rw [ek] at hmi
      refine g_callV (q := 31) lX12_387 mX12_minuteIn nX12_minuteIn rfl (hmi) (by first | assumption | exact S.at _ rfl) rfl rfl shLe.rf (rmOk.mk (by omega) (by first | exact shLe.rf | assumption)) (Nat.le_of_ble_eq_true rfl) dX12_baulks_28 rfl rfl (kI fun r_ c_ hp => ?_)
      obtain ⟨hr, hq⟩ := hp
      replace hr := hr.symm
      replace hq := hq.symm
      subst hr hq
      refine g_iadd (q := 32) dX12_baulks_31 rfl ?_
      refine g_iaload (q := 33) (by first | assumption | exact S.at _ rfl) (by omega) (by omega) (by omega) dX12_baulks_32 rfl ?_
      rw [hld]
      by_cases hq : ldP β mk (-1) (-1) 9 x (tl k)
      · rw [hp.2 hq]
        rw [if_pos (hcl.mp hq)] at hf
        have hb2 := hB.2.2.1
        have hnx := nxB_in (β := β) (st := x) (m := tl k / 10) (s := tl k % 10) (by omega) (by omega)
        refine s_istore_n_4_2 (q := 34) dX12_baulks_33 rfl rfl rfl ?_
        refine g_iload_n (q := 35) dX12_baulks_34 rfl rfl ?_
        refine g_iconst (q := 36) dX12_baulks_35 rfl ?_
        refine g_icmp_ne (q := 39) (tg := 41) dX12_baulks_36 (by decide) rfl (fun c_36 => ?_) (fun c_36 => ?_)
        · refine s_iinc_4_3 (q := 44) dX12_baulks_41 rfl rfl rfl ?_
          refine g_goto (q := 7) dX12_baulks_44 (by decide) ?_
          refine kk _ _ _ (by simp [lsSub]) ⟨by omega, hnx, rfl, ?_⟩
          rw [show (k + 1).toNat = k.toNat + 1 by omega]
          exact hf
        · exact absurd c_36 (by unfold w32; omega)
      · rw [hp.1.mpr hq]
        rw [if_neg (fun z => hq (hcl.mpr z))] at hf
        refine s_istore_n_4_2 (q := 34) dX12_baulks_33 rfl rfl rfl ?_
        refine g_iload_n (q := 35) dX12_baulks_34 rfl rfl ?_
        refine g_iconst (q := 36) dX12_baulks_35 rfl ?_
        refine g_icmp_ne (q := 39) (tg := 41) dX12_baulks_36 (by decide) rfl (fun c_36 => ?_) (fun c_36 => ?_)
        · exact absurd rfl c_36
        · refine g_iload_n (q := 40) dX12_baulks_39 rfl rfl ?_
          refine g_ireturn dX12_baulks_40 rfl ?_
          rw [← hP]
          exact ⟨_, rfl, by rw [if_neg (by omega)]; exact hf, by omega, rfl⟩
  · rintro x c ⟨-, -, hc, hf⟩
    subst hc
    rw [show n - ((n : Int)).toNat = 0 by omega] at hf
    refine g_iload_n (q := 8) dX12_baulks_7 rfl rfl ?_
    refine g_aload_n (q := 9) dX12_baulks_8 rfl rfl ?_
    refine g_getA (q := 12) (kI := 33) fX12_78 (by first | assumption | exact S.at _ rfl) dX12_baulks_9 rfl rfl (by first | assumption | exact L.at _ _ rfl | exact LK.at (by assumption) _ _ rfl | ((repeat first | rewrite [wr_na (by decide)] | rewrite [wr_nk (by decide)] | rewrite [wa_na (by decide)]); first | assumption | exact LK.at (by assumption) _ _ rfl) | exact rfl) ?_
    refine g_iload_n (q := 13) dX12_baulks_12 rfl rfl ?_
    refine g_iaload (q := 14) (by first | assumption | exact S.at _ rfl) (by omega) (by omega) (by omega) dX12_baulks_13 rfl ?_
    refine g_icmp_ge (q := 17) (tg := 47) dX12_baulks_14 (by decide) rfl (fun c_14 => ?_) (fun c_14 => ?_)
    · refine g_aload_n (q := 48) dX12_baulks_47 rfl rfl ?_
      refine g_getA (q := 51) (kI := 33) fX12_78 (by first | assumption | exact S.at _ rfl) dX12_baulks_48 rfl rfl (by first | assumption | exact L.at _ _ rfl | exact LK.at (by assumption) _ _ rfl | ((repeat first | rewrite [wr_na (by decide)] | rewrite [wr_nk (by decide)] | rewrite [wa_na (by decide)]); first | assumption | exact LK.at (by assumption) _ _ rfl) | exact rfl) ?_
      refine g_iload_n (q := 52) dX12_baulks_51 rfl rfl ?_
      refine g_iaload (q := 53) (by first | assumption | exact S.at _ rfl) (by omega) (by omega) (by omega) dX12_baulks_52 rfl ?_
      refine g_ireturn dX12_baulks_53 rfl ?_
      rw [← hP, h3]
      exact ⟨_, rfl, by rw [if_pos rfl]; exact hf, by omega, rfl⟩
    · rw [h3] at c_14
      exact absurd c_14 (Int.lt_irrefl _)
def told (sz : Int → Int) (vl : Int → Int → Int) (t : Int) (tl : Int → Int) : Prop := ∀ i : Nat, (i : Int) < sz t → tl i = vl t i
theorem tw_baulk {t : Int} {tl : Int → Int} (S : SH sh) (M : MD ct β mk st) (T : MT ct sz bt vl) (ht : i32 t) (htl : told sz vl t tl) : Mt YX12_baulk (d + 6) [.inr (.inr 92), .inl t] sh sh ct (pI fun r c => (∃ no, rowR β sz vl t 12 0 no ∧ ((no ≠ 0 ∧ r = no) ∨ (no = 0 ∧ r = fbS β mk tl (sz t).toNat (sz t).toNat st))) ∧ mF ct c) := by
  have L := M.L
  have hB := M.B
  generalize hP : (pI fun r c => (∃ no, rowR β sz vl t 12 0 no ∧ ((no ≠ 0 ∧ r = no) ∨ (no = 0 ∧ r = fbS β mk tl (sz t).toNat (sz t).toNat st))) ∧ mF ct c) = Po
  refine Mt.of rfl (Nat.le_of_ble_eq_true rfl) ?_
  show G _ 0 [some (.inr (.inr 92)), some (.inl t), none, none] [] sh ct
  refine g_aload_n (q := 1) dX12_baulk_0 rfl rfl ?_
  refine g_iconst (q := 2) dX12_baulk_1 rfl ?_
  refine g_putI (q := 5) (kI := 0) fX12_1 (by first | assumption | exact S.at _ rfl) dX12_baulk_2 rfl rfl ?_
  refine g_aload_n (q := 6) dX12_baulk_5 rfl rfl ?_
  refine g_iload_n (q := 7) dX12_baulk_6 rfl rfl ?_
  refine g_bipush (q := 9) dX12_baulk_7 (by decide +kernel) rfl ?_
  refine g_iconst (q := 10) dX12_baulk_9 rfl ?_
  refine g_callV (q := 13) lX12_390 mX12_noRow nX12_noRow rfl (tw_noRow (d + 2) sh _ S (M.mf mF.th) (T.mf mF.th) ht (by omega) (Or.inl rfl)) (by first | assumption | exact S.at _ rfl) rfl rfl shLe.rf (rmOk.mk (by omega) (by first | exact shLe.rf | assumption)) (Nat.le_of_ble_eq_true rfl) dX12_baulk_10 rfl rfl (kI fun no c1 hp => ?_)
  obtain ⟨hno, rfl⟩ := hp
  have hng := hno.rg
  refine s_istore_n_4_2 (q := 14) dX12_baulk_13 rfl rfl rfl ?_
  refine g_iload_n (q := 15) dX12_baulk_14 rfl rfl ?_
  refine g_if_eq (q := 18) (tg := 20) dX12_baulk_15 (by decide) rfl (fun c_15 => ?_) (fun c_15 => ?_)
  · have h0 : no = 0 := by unfold w32 at c_15; omega
    subst h0
    have hrow := hno.zero
    have h1 := hrow.1
    have h2 := hrow.2.1
    have en : (((sz t).toNat : Nat) : Int) = sz t := by omega
    refine g_aload_n (q := 21) dX12_baulk_20 rfl rfl ?_
    refine g_callV (q := 24) lX12_351 mX12_laysPlain nX12_laysPlain rfl (tw_laysPlain d sh _ S (M.mf mF.th)) (by first | assumption | exact S.at _ rfl) rfl rfl shLe.rf (rmOk.mk (by omega) (by first | exact shLe.rf | assumption)) (Nat.le_of_ble_eq_true rfl) dX12_baulk_21 rfl rfl (kN fun c1 hp => ?_)
    obtain ⟨D, e1⟩ := hp
    have e1' := (mF.th (v := 0)).tr (mF.of e1 rfl)
    have M1 := M.mf e1'
    have R := hrow.row c1 hB (T.mf e1') en (fun i hi => htl i (by omega))
    refine g_aload_n (q := 25) dX12_baulk_24 rfl rfl ?_
    refine g_iload_n (q := 26) dX12_baulk_25 rfl rfl ?_
    refine g_callV (q := 29) lX12_393 mX12_baulks nX12_baulks rfl (tw_baulks (d + 4) sh _ S M1 D R.1 R.2) (by first | assumption | exact S.at _ rfl) rfl rfl shLe.rf (rmOk.mk (by omega) (by first | exact shLe.rf | assumption)) (Nat.le_of_ble_eq_true rfl) dX12_baulk_26 rfl rfl (kI fun r c2 hp => ?_)
    obtain ⟨hf, hr, rfl⟩ := hp
    have L1 := M1.L
    have h112 := R.1.2.2.1
    refine s_istore_n_4_3 (q := 30) dX12_baulk_29 rfl rfl rfl ?_
    refine g_iload_n (q := 31) dX12_baulk_30 rfl rfl ?_
    refine g_aload_n (q := 32) dX12_baulk_31 rfl rfl ?_
    refine g_getA (q := 35) (kI := 33) fX12_78 (by first | assumption | exact S.at _ rfl) dX12_baulk_32 rfl rfl (by first | assumption | exact L.at _ _ rfl | exact LK.at (by assumption) _ _ rfl | ((repeat first | rewrite [wr_na (by decide)] | rewrite [wr_nk (by decide)] | rewrite [wa_na (by decide)]); first | assumption | exact LK.at (by assumption) _ _ rfl) | exact rfl) ?_
    refine g_iload_n (q := 36) dX12_baulk_35 rfl rfl ?_
    refine g_iaload (q := 37) (by first | assumption | exact S.at _ rfl) (by omega) (by omega) (by omega) dX12_baulk_36 rfl ?_
    refine g_icmp_ne (q := 40) (tg := 44) dX12_baulk_37 (by decide) rfl (fun c_37 => ?_) (fun c_37 => ?_)
    · rw [h112] at c_37
      refine g_iload_n (q := 45) dX12_baulk_44 rfl rfl ?_
      refine g_ireturn dX12_baulk_45 rfl ?_
      rw [← hP]
      rw [if_neg (fun z => c_37 (by rw [z]))] at hf
      exact ⟨_, rfl, ⟨0, hno, Or.inr ⟨rfl, hf⟩⟩, e1'⟩
    · rw [h112] at c_37
      refine g_iconst (q := 41) dX12_baulk_40 rfl ?_
      refine g_goto (q := 45) dX12_baulk_41 (by decide) ?_
      refine g_ireturn dX12_baulk_45 rfl ?_
      rw [← hP]
      rw [if_pos (by unfold w32 at c_37; omega)] at hf
      exact ⟨_, rfl, ⟨0, hno, Or.inr ⟨rfl, hf⟩⟩, e1'⟩
  · refine g_iload_n (q := 19) dX12_baulk_18 rfl rfl ?_
    refine g_ireturn dX12_baulk_19 rfl ?_
    rw [← hP]
    exact ⟨_, rfl, ⟨no, hno, Or.inl ⟨fun z => c_15 (by rw [z]; rfl), rfl⟩⟩, mF.th⟩
end
