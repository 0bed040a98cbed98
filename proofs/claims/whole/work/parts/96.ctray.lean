/-! MinuteBook: trays; the row that is told -/
theorem dX11_refusedTray_0 : decode cX11_refusedTray 0 = .ok (.iload_n 1, 1) := by decide +kernel
theorem dX11_refusedTray_1 : decode cX11_refusedTray 1 = .ok (.invokestatic 214, 3) := by decide +kernel
theorem dX11_refusedTray_4 : decode cX11_refusedTray 4 = .ok (.ifCond .ne 6, 3) := by decide +kernel
theorem dX11_refusedTray_7 : decode cX11_refusedTray 7 = .ok (.bipush (-2), 2) := by decide +kernel
theorem dX11_refusedTray_9 : decode cX11_refusedTray 9 = .ok (.ireturn, 1) := by decide +kernel
theorem dX11_refusedTray_10 : decode cX11_refusedTray 10 = .ok (.aload_n 0, 1) := by decide +kernel
theorem dX11_refusedTray_11 : decode cX11_refusedTray 11 = .ok (.getfield 46, 3) := by decide +kernel
theorem dX11_refusedTray_14 : decode cX11_refusedTray 14 = .ok (.iload_n 1, 1) := by decide +kernel
theorem dX11_refusedTray_15 : decode cX11_refusedTray 15 = .ok (.aaload, 1) := by decide +kernel
theorem dX11_refusedTray_16 : decode cX11_refusedTray 16 = .ok (.invokevirtual 217, 3) := by decide +kernel
theorem dX11_refusedTray_19 : decode cX11_refusedTray 19 = .ok (.ifCond .eq 8, 3) := by decide +kernel
theorem dX11_refusedTray_22 : decode cX11_refusedTray 22 = .ok (.bipush (-6), 2) := by decide +kernel
theorem dX11_refusedTray_24 : decode cX11_refusedTray 24 = .ok (.goto 4, 3) := by decide +kernel
theorem dX11_refusedTray_27 : decode cX11_refusedTray 27 = .ok (.iconst 0, 1) := by decide +kernel
theorem dX11_refusedTray_28 : decode cX11_refusedTray 28 = .ok (.ireturn, 1) := by decide +kernel
theorem dX11_refusedNumbers_0 : decode cX11_refusedNumbers 0 = .ok (.aload_n 0, 1) := by decide +kernel
theorem dX11_refusedNumbers_1 : decode cX11_refusedNumbers 1 = .ok (.getfield 46, 3) := by decide +kernel
theorem dX11_refusedNumbers_4 : decode cX11_refusedNumbers 4 = .ok (.iload_n 1, 1) := by decide +kernel
theorem dX11_refusedNumbers_5 : decode cX11_refusedNumbers 5 = .ok (.aaload, 1) := by decide +kernel
theorem dX11_refusedNumbers_6 : decode cX11_refusedNumbers 6 = .ok (.astore 4, 2) := by decide +kernel
theorem dX11_refusedNumbers_8 : decode cX11_refusedNumbers 8 = .ok (.aload 4, 2) := by decide +kernel
theorem dX11_refusedNumbers_10 : decode cX11_refusedNumbers 10 = .ok (.getfield 225, 3) := by decide +kernel
theorem dX11_refusedNumbers_13 : decode cX11_refusedNumbers 13 = .ok (.iconst 1, 1) := by decide +kernel
theorem dX11_refusedNumbers_14 : decode cX11_refusedNumbers 14 = .ok (.if_icmp .lt 12, 3) := by decide +kernel
theorem dX11_refusedNumbers_17 : decode cX11_refusedNumbers 17 = .ok (.aload 4, 2) := by decide +kernel
theorem dX11_refusedNumbers_19 : decode cX11_refusedNumbers 19 = .ok (.getfield 225, 3) := by decide +kernel
theorem dX11_refusedNumbers_22 : decode cX11_refusedNumbers 22 = .ok (.iload_n 2, 1) := by decide +kernel
theorem dX11_refusedNumbers_23 : decode cX11_refusedNumbers 23 = .ok (.if_icmp .le 6, 3) := by decide +kernel
theorem dX11_refusedNumbers_26 : decode cX11_refusedNumbers 26 = .ok (.bipush (-4), 2) := by decide +kernel
theorem dX11_refusedNumbers_28 : decode cX11_refusedNumbers 28 = .ok (.ireturn, 1) := by decide +kernel
theorem dX11_refusedNumbers_29 : decode cX11_refusedNumbers 29 = .ok (.aload_n 0, 1) := by decide +kernel
theorem dX11_refusedNumbers_30 : decode cX11_refusedNumbers 30 = .ok (.getfield 95, 3) := by decide +kernel
theorem dX11_refusedNumbers_33 : decode cX11_refusedNumbers 33 = .ok (.aload 4, 2) := by decide +kernel
theorem dX11_refusedNumbers_35 : decode cX11_refusedNumbers 35 = .ok (.getfield 225, 3) := by decide +kernel
theorem dX11_refusedNumbers_38 : decode cX11_refusedNumbers 38 = .ok (.invokevirtual 266, 3) := by decide +kernel
theorem dX11_refusedNumbers_41 : decode cX11_refusedNumbers 41 = .ok (.iconst 0, 1) := by decide +kernel
theorem dX11_refusedNumbers_42 : decode cX11_refusedNumbers 42 = .ok (.istore 5, 2) := by decide +kernel
theorem dX11_refusedNumbers_44 : decode cX11_refusedNumbers 44 = .ok (.iload 5, 2) := by decide +kernel
theorem dX11_refusedNumbers_46 : decode cX11_refusedNumbers 46 = .ok (.aload 4, 2) := by decide +kernel
theorem dX11_refusedNumbers_48 : decode cX11_refusedNumbers 48 = .ok (.getfield 225, 3) := by decide +kernel
theorem dX11_refusedNumbers_51 : decode cX11_refusedNumbers 51 = .ok (.if_icmp .ge 55, 3) := by decide +kernel
theorem dX11_refusedNumbers_54 : decode cX11_refusedNumbers 54 = .ok (.aload 4, 2) := by decide +kernel
theorem dX11_refusedNumbers_56 : decode cX11_refusedNumbers 56 = .ok (.iload 5, 2) := by decide +kernel
theorem dX11_refusedNumbers_58 : decode cX11_refusedNumbers 58 = .ok (.invokevirtual 226, 3) := by decide +kernel
theorem dX11_refusedNumbers_61 : decode cX11_refusedNumbers 61 = .ok (.lstore 6, 2) := by decide +kernel
theorem dX11_refusedNumbers_63 : decode cX11_refusedNumbers 63 = .ok (.aload_n 0, 1) := by decide +kernel
theorem dX11_refusedNumbers_64 : decode cX11_refusedNumbers 64 = .ok (.lload 6, 2) := by decide +kernel
theorem dX11_refusedNumbers_66 : decode cX11_refusedNumbers 66 = .ok (.invokevirtual 433, 3) := by decide +kernel
theorem dX11_refusedNumbers_69 : decode cX11_refusedNumbers 69 = .ok (.ifCond .ne 19, 3) := by decide +kernel
theorem dX11_refusedNumbers_72 : decode cX11_refusedNumbers 72 = .ok (.iload_n 3, 1) := by decide +kernel
theorem dX11_refusedNumbers_73 : decode cX11_refusedNumbers 73 = .ok (.ifCond .eq 12, 3) := by decide +kernel
theorem dX11_refusedNumbers_76 : decode cX11_refusedNumbers 76 = .ok (.lload 6, 2) := by decide +kernel
theorem dX11_refusedNumbers_78 : decode cX11_refusedNumbers 78 = .ok (.ldc2_w 240, 3) := by decide +kernel
theorem dX11_refusedNumbers_81 : decode cX11_refusedNumbers 81 = .ok (.lcmp, 1) := by decide +kernel
theorem dX11_refusedNumbers_82 : decode cX11_refusedNumbers 82 = .ok (.ifCond .eq 6, 3) := by decide +kernel
theorem dX11_refusedNumbers_85 : decode cX11_refusedNumbers 85 = .ok (.bipush (-3), 2) := by decide +kernel
theorem dX11_refusedNumbers_87 : decode cX11_refusedNumbers 87 = .ok (.ireturn, 1) := by decide +kernel
theorem dX11_refusedNumbers_88 : decode cX11_refusedNumbers 88 = .ok (.aload_n 0, 1) := by decide +kernel
theorem dX11_refusedNumbers_89 : decode cX11_refusedNumbers 89 = .ok (.getfield 95, 3) := by decide +kernel
theorem dX11_refusedNumbers_92 : decode cX11_refusedNumbers 92 = .ok (.iload 5, 2) := by decide +kernel
theorem dX11_refusedNumbers_94 : decode cX11_refusedNumbers 94 = .ok (.lload 6, 2) := by decide +kernel
theorem dX11_refusedNumbers_96 : decode cX11_refusedNumbers 96 = .ok (.l2i, 1) := by decide +kernel
theorem dX11_refusedNumbers_97 : decode cX11_refusedNumbers 97 = .ok (.invokevirtual 269, 3) := by decide +kernel
theorem dX11_refusedNumbers_100 : decode cX11_refusedNumbers 100 = .ok (.iinc 5 1, 3) := by decide +kernel
theorem dX11_refusedNumbers_103 : decode cX11_refusedNumbers 103 = .ok (.goto (-59), 3) := by decide +kernel
theorem dX11_refusedNumbers_106 : decode cX11_refusedNumbers 106 = .ok (.iconst 0, 1) := by decide +kernel
theorem dX11_refusedNumbers_107 : decode cX11_refusedNumbers 107 = .ok (.ireturn, 1) := by decide +kernel
theorem dX11_isMinute_0 : decode cX11_isMinute 0 = .ok (.lload_n 1, 1) := by decide +kernel
theorem dX11_isMinute_1 : decode cX11_isMinute 1 = .ok (.lconst 0, 1) := by decide +kernel
theorem dX11_isMinute_2 : decode cX11_isMinute 2 = .ok (.lcmp, 1) := by decide +kernel
theorem dX11_isMinute_3 : decode cX11_isMinute 3 = .ok (.ifCond .lt 39, 3) := by decide +kernel
theorem dX11_isMinute_6 : decode cX11_isMinute 6 = .ok (.lload_n 1, 1) := by decide +kernel
theorem dX11_isMinute_7 : decode cX11_isMinute 7 = .ok (.ldc2_w 437, 3) := by decide +kernel
theorem dX11_isMinute_10 : decode cX11_isMinute 10 = .ok (.lcmp, 1) := by decide +kernel
theorem dX11_isMinute_11 : decode cX11_isMinute 11 = .ok (.ifCond .ge 31, 3) := by decide +kernel
theorem dX11_isMinute_14 : decode cX11_isMinute 14 = .ok (.aload_n 0, 1) := by decide +kernel
theorem dX11_isMinute_15 : decode cX11_isMinute 15 = .ok (.lload_n 1, 1) := by decide +kernel
theorem dX11_isMinute_16 : decode cX11_isMinute 16 = .ok (.l2i, 1) := by decide +kernel
theorem dX11_isMinute_17 : decode cX11_isMinute 17 = .ok (.bipush 10, 2) := by decide +kernel
theorem dX11_isMinute_19 : decode cX11_isMinute 19 = .ok (.idiv, 1) := by decide +kernel
theorem dX11_isMinute_20 : decode cX11_isMinute 20 = .ok (.invokevirtual 135, 3) := by decide +kernel
theorem dX11_isMinute_23 : decode cX11_isMinute 23 = .ok (.ifCond .eq 19, 3) := by decide +kernel
theorem dX11_isMinute_26 : decode cX11_isMinute 26 = .ok (.aload_n 0, 1) := by decide +kernel
theorem dX11_isMinute_27 : decode cX11_isMinute 27 = .ok (.lload_n 1, 1) := by decide +kernel
theorem dX11_isMinute_28 : decode cX11_isMinute 28 = .ok (.l2i, 1) := by decide +kernel
theorem dX11_isMinute_29 : decode cX11_isMinute 29 = .ok (.bipush 10, 2) := by decide +kernel
theorem dX11_isMinute_31 : decode cX11_isMinute 31 = .ok (.irem, 1) := by decide +kernel
theorem dX11_isMinute_32 : decode cX11_isMinute 32 = .ok (.invokevirtual 158, 3) := by decide +kernel
theorem dX11_isMinute_35 : decode cX11_isMinute 35 = .ok (.ifCond .eq 7, 3) := by decide +kernel
theorem dX11_isMinute_38 : decode cX11_isMinute 38 = .ok (.iconst 1, 1) := by decide +kernel
theorem dX11_isMinute_39 : decode cX11_isMinute 39 = .ok (.goto 4, 3) := by decide +kernel
theorem dX11_isMinute_42 : decode cX11_isMinute 42 = .ok (.iconst 0, 1) := by decide +kernel
theorem dX11_isMinute_43 : decode cX11_isMinute 43 = .ok (.ireturn, 1) := by decide +kernel
theorem dX11_refusedMinutes_0 : decode cX11_refusedMinutes 0 = .ok (.aload_n 0, 1) := by decide +kernel
theorem dX11_refusedMinutes_1 : decode cX11_refusedMinutes 1 = .ok (.iload_n 1, 1) := by decide +kernel
theorem dX11_refusedMinutes_2 : decode cX11_refusedMinutes 2 = .ok (.invokevirtual 233, 3) := by decide +kernel
theorem dX11_refusedMinutes_5 : decode cX11_refusedMinutes 5 = .ok (.istore_n 2, 1) := by decide +kernel
theorem dX11_refusedMinutes_6 : decode cX11_refusedMinutes 6 = .ok (.iload_n 2, 1) := by decide +kernel
theorem dX11_refusedMinutes_7 : decode cX11_refusedMinutes 7 = .ok (.ifCond .eq 7, 3) := by decide +kernel
theorem dX11_refusedMinutes_10 : decode cX11_refusedMinutes 10 = .ok (.iload_n 2, 1) := by decide +kernel
theorem dX11_refusedMinutes_11 : decode cX11_refusedMinutes 11 = .ok (.goto 11, 3) := by decide +kernel
theorem dX11_refusedMinutes_14 : decode cX11_refusedMinutes 14 = .ok (.aload_n 0, 1) := by decide +kernel
theorem dX11_refusedMinutes_15 : decode cX11_refusedMinutes 15 = .ok (.iload_n 1, 1) := by decide +kernel
theorem dX11_refusedMinutes_16 : decode cX11_refusedMinutes 16 = .ok (.bipush 12, 2) := by decide +kernel
theorem dX11_refusedMinutes_18 : decode cX11_refusedMinutes 18 = .ok (.iconst 0, 1) := by decide +kernel
theorem dX11_refusedMinutes_19 : decode cX11_refusedMinutes 19 = .ok (.invokevirtual 354, 3) := by decide +kernel
theorem dX11_refusedMinutes_22 : decode cX11_refusedMinutes 22 = .ok (.ireturn, 1) := by decide +kernel
theorem dX11_refusedLost_0 : decode cX11_refusedLost 0 = .ok (.aload_n 0, 1) := by decide +kernel
theorem dX11_refusedLost_1 : decode cX11_refusedLost 1 = .ok (.iload_n 1, 1) := by decide +kernel
theorem dX11_refusedLost_2 : decode cX11_refusedLost 2 = .ok (.invokevirtual 233, 3) := by decide +kernel
theorem dX11_refusedLost_5 : decode cX11_refusedLost 5 = .ok (.istore_n 2, 1) := by decide +kernel
theorem dX11_refusedLost_6 : decode cX11_refusedLost 6 = .ok (.iload_n 2, 1) := by decide +kernel
theorem dX11_refusedLost_7 : decode cX11_refusedLost 7 = .ok (.ifCond .eq 7, 3) := by decide +kernel
theorem dX11_refusedLost_10 : decode cX11_refusedLost 10 = .ok (.iload_n 2, 1) := by decide +kernel
theorem dX11_refusedLost_11 : decode cX11_refusedLost 11 = .ok (.goto 11, 3) := by decide +kernel
theorem dX11_refusedLost_14 : decode cX11_refusedLost 14 = .ok (.aload_n 0, 1) := by decide +kernel
theorem dX11_refusedLost_15 : decode cX11_refusedLost 15 = .ok (.iload_n 1, 1) := by decide +kernel
theorem dX11_refusedLost_16 : decode cX11_refusedLost 16 = .ok (.bipush 10, 2) := by decide +kernel
theorem dX11_refusedLost_18 : decode cX11_refusedLost 18 = .ok (.iconst 1, 1) := by decide +kernel
theorem dX11_refusedLost_19 : decode cX11_refusedLost 19 = .ok (.invokevirtual 354, 3) := by decide +kernel
theorem dX11_refusedLost_22 : decode cX11_refusedLost 22 = .ok (.ireturn, 1) := by decide +kernel
theorem dX11_refusedPlace_0 : decode cX11_refusedPlace 0 = .ok (.aload_n 0, 1) := by decide +kernel
theorem dX11_refusedPlace_1 : decode cX11_refusedPlace 1 = .ok (.iload_n 1, 1) := by decide +kernel
theorem dX11_refusedPlace_2 : decode cX11_refusedPlace 2 = .ok (.invokevirtual 340, 3) := by decide +kernel
theorem dX11_refusedPlace_5 : decode cX11_refusedPlace 5 = .ok (.istore_n 3, 1) := by decide +kernel
theorem dX11_refusedPlace_6 : decode cX11_refusedPlace 6 = .ok (.iload_n 3, 1) := by decide +kernel
theorem dX11_refusedPlace_7 : decode cX11_refusedPlace 7 = .ok (.ifCond .ne 21, 3) := by decide +kernel
theorem dX11_refusedPlace_10 : decode cX11_refusedPlace 10 = .ok (.iload_n 2, 1) := by decide +kernel
theorem dX11_refusedPlace_11 : decode cX11_refusedPlace 11 = .ok (.ifCond .lt 14, 3) := by decide +kernel
theorem dX11_refusedPlace_14 : decode cX11_refusedPlace 14 = .ok (.iload_n 2, 1) := by decide +kernel
theorem dX11_refusedPlace_15 : decode cX11_refusedPlace 15 = .ok (.aload_n 0, 1) := by decide +kernel
theorem dX11_refusedPlace_16 : decode cX11_refusedPlace 16 = .ok (.getfield 95, 3) := by decide +kernel
theorem dX11_refusedPlace_19 : decode cX11_refusedPlace 19 = .ok (.getfield 357, 3) := by decide +kernel
theorem dX11_refusedPlace_22 : decode cX11_refusedPlace 22 = .ok (.if_icmp .lt 6, 3) := by decide +kernel
theorem dX11_refusedPlace_25 : decode cX11_refusedPlace 25 = .ok (.bipush (-7), 2) := by decide +kernel
theorem dX11_refusedPlace_27 : decode cX11_refusedPlace 27 = .ok (.istore_n 3, 1) := by decide +kernel
theorem dX11_refusedPlace_28 : decode cX11_refusedPlace 28 = .ok (.iload_n 3, 1) := by decide +kernel
theorem dX11_refusedPlace_29 : decode cX11_refusedPlace 29 = .ok (.ireturn, 1) := by decide +kernel
theorem dX11_refusedKept_0 : decode cX11_refusedKept 0 = .ok (.aload_n 0, 1) := by decide +kernel
theorem dX11_refusedKept_1 : decode cX11_refusedKept 1 = .ok (.iload_n 2, 1) := by decide +kernel
theorem dX11_refusedKept_2 : decode cX11_refusedKept 2 = .ok (.invokevirtual 135, 3) := by decide +kernel
theorem dX11_refusedKept_5 : decode cX11_refusedKept 5 = .ok (.ifCond .eq 11, 3) := by decide +kernel
theorem dX11_refusedKept_8 : decode cX11_refusedKept 8 = .ok (.aload_n 0, 1) := by decide +kernel
theorem dX11_refusedKept_9 : decode cX11_refusedKept 9 = .ok (.iload_n 1, 1) := by decide +kernel
theorem dX11_refusedKept_10 : decode cX11_refusedKept 10 = .ok (.invokevirtual 317, 3) := by decide +kernel
theorem dX11_refusedKept_13 : decode cX11_refusedKept 13 = .ok (.goto 5, 3) := by decide +kernel
theorem dX11_refusedKept_16 : decode cX11_refusedKept 16 = .ok (.bipush (-2), 2) := by decide +kernel
theorem dX11_refusedKept_18 : decode cX11_refusedKept 18 = .ok (.ireturn, 1) := by decide +kernel
theorem dX11_refusedErrata_0 : decode cX11_refusedErrata 0 = .ok (.aload_n 0, 1) := by decide +kernel
theorem dX11_refusedErrata_1 : decode cX11_refusedErrata 1 = .ok (.iload_n 1, 1) := by decide +kernel
theorem dX11_refusedErrata_2 : decode cX11_refusedErrata 2 = .ok (.invokevirtual 317, 3) := by decide +kernel
theorem dX11_refusedErrata_5 : decode cX11_refusedErrata 5 = .ok (.istore 4, 2) := by decide +kernel
theorem dX11_refusedErrata_7 : decode cX11_refusedErrata 7 = .ok (.iload 4, 2) := by decide +kernel
theorem dX11_refusedErrata_9 : decode cX11_refusedErrata 9 = .ok (.ifCond .ne 18, 3) := by decide +kernel
theorem dX11_refusedErrata_12 : decode cX11_refusedErrata 12 = .ok (.iload_n 2, 1) := by decide +kernel
theorem dX11_refusedErrata_13 : decode cX11_refusedErrata 13 = .ok (.invokestatic 252, 3) := by decide +kernel
theorem dX11_refusedErrata_16 : decode cX11_refusedErrata 16 = .ok (.ifCond .eq 7, 3) := by decide +kernel
theorem dX11_refusedErrata_19 : decode cX11_refusedErrata 19 = .ok (.iload_n 3, 1) := by decide +kernel
theorem dX11_refusedErrata_20 : decode cX11_refusedErrata 20 = .ok (.ifCond .ge 7, 3) := by decide +kernel
theorem dX11_refusedErrata_23 : decode cX11_refusedErrata 23 = .ok (.bipush (-3), 2) := by decide +kernel
theorem dX11_refusedErrata_25 : decode cX11_refusedErrata 25 = .ok (.istore 4, 2) := by decide +kernel
theorem dX11_refusedErrata_27 : decode cX11_refusedErrata 27 = .ok (.iload 4, 2) := by decide +kernel
theorem dX11_refusedErrata_29 : decode cX11_refusedErrata 29 = .ok (.ireturn, 1) := by decide +kernel
def TC (ct : mbCt) (sz bt : Int → Int) (vl : Int → Int → Int) : Prop := ∀ t, 0 ≤ t → t < 4 → ct (39 + 2 * t) 1 = sz t ∧ (sz t = -1 ∨ ((0 ≤ sz t ∧ sz t ≤ 40) ∧ ct (39 + 2 * t) 2 = bt t ∧ ∀ i, 0 ≤ i → i < sz t → ct (39 + 2 * t + 1) i = vl t i ∧ i64 (vl t i)))
theorem TC.k {ct c : mbCt} {sz bt : Int → Int} {vl : Int → Int → Int} (h : TC ct sz bt vl) (e : kG ct c) : TC c sz bt vl := by
  intro t t0 t1
  have e0 : c (39 + 2 * t) = ct (39 + 2 * t) := e _ (by omega) (by unfold KF; simp; omega)
  have e1 : c (39 + 2 * t + 1) = ct (39 + 2 * t + 1) := e _ (by omega) (by unfold KF; simp; omega)
  rw [e0, e1]
  exact h t t0 t1
theorem LK.tray {ct : mbCt} (L : LK ct) {t : Int} (h0 : 0 ≤ t) (h1 : t < 4) : ct 38 t = 39 + 2 * t ∧ ct (39 + 2 * t) 0 = 39 + 2 * t + 1 := by
  rcases (show t = 0 ∨ t = 1 ∨ t = 2 ∨ t = 3 by omega) with rfl | rfl | rfl | rfl <;> exact ⟨L.at _ _ rfl, L.at _ _ rfl⟩
theorem SH.tray {sh : mbSh} (S : SH sh) {t : Int} (h0 : 0 ≤ t) (h1 : t < 4) : shA sh (39 + 2 * t) = some (9, 3) ∧ shA sh (39 + 2 * t + 1) = some (21, 40) := by
  rcases (show t = 0 ∨ t = 1 ∨ t = 2 ∨ t = 3 by omega) with rfl | rfl | rfl | rfl <;> exact ⟨S.at _ rfl, S.at _ rfl⟩
theorem trAt_t {sh : mbSh} {ct : mbCt} (S : SH sh) (L : LK ct) {t : Int} (h0 : 0 ≤ t) (h1 : t < 4) : trAt sh ct (39 + 2 * t) := ⟨(S.tray h0 h1).1, (S.tray h0 h1).2, (L.tray h0 h1).2⟩
theorem lk81 (k : Int) : lkF 81 k = none := by
  unfold lkF
  split
  · show (([] : List (Option Int))[k.toNat]?).getD none = none
    simp
  · rfl
section
variable {sh : mbSh} {ct c : mbCt} {b : Int} {β : Bk} {s : Sit} {q : Int} {N : Nat} {V : Int}
theorem CX.ly (X : CX sh ct b β s q N V) (e : eqBut [80, 81] ct c) (hk : ∀ k, k ≠ 2 → k ≠ 9 → c 80 k = ct 80 k) (hz : ∃ z : Nat, c 80 2 = z ∧ z ≤ 12) (h81 : ∀ i, 0 ≤ i → i < 12 → -1 ≤ c 81 i ∧ c 81 i ≤ 1000) (h : (c 80 = ct 80 ∧ c 81 = ct 81) ∨ c 80 9 = -1) : CX sh c b β s q N V ∧ kF q ct c := by
  have hq := X.qc
  have k : kF q ct c := (e.bq).mono (by decide)
  obtain ⟨h0, hs, hB, ⟨mk, hK⟩, sq, hv, hV⟩ := X
  have f : ∀ x : Int, x ≠ 80 → x ≠ 81 → c x = ct x := fun x h1 h2 => e x (by simp; omega)
  have e70 : c 70 = ct 70 := f 70 (by decide) (by decide)
  have eq : c q = ct q := f q (by rcases hq with h | h <;> omega) (by rcases hq with h | h <;> omega)
  have hL : LK c := hK.1.L.but e (by
    intro a ha k v hkv
    rcases List.mem_cons.mp ha with rfl | ha
    · have h2 : k ≠ 2 := fun z => by rw [z] at hkv; cases hkv
      have h9 : k ≠ 9 := fun z => by rw [z] at hkv; cases hkv
      rw [hk k h2 h9]
      exact hK.1.L _ _ _ hkv
    · rw [List.mem_singleton.mp ha, lk81] at hkv
      cases hkv)
  refine ⟨⟨by rw [f 0 (by decide) (by decide)]; exact h0, hs.cg (f 12 (by decide) (by decide)) (f 13 (by decide) (by decide)), hB, ⟨mk, hK.1.big hL (fun x hx => f x (by omega) (by omega)), hK.2.1, hK.2.2.1.mv (f 77 (by decide) (by decide)) eq (f 79 (by decide) (by decide)) e70, hK.2.2.2.1.cg e70 (f 87 (by decide) (by decide)) (f 88 (by decide) (by decide)) (f 89 (by decide) (by decide)), ?_⟩, sq, by rw [e70]; exact hv, hV⟩, k⟩
  obtain ⟨l1, ⟨z, z1, z2, z3⟩, l3, l4, l5, l6, l7⟩ := hK.2.2.2.2
  rcases h with ⟨h80, h81'⟩ | h9
  · exact LYI.cg ⟨l1, ⟨z, z1, z2, z3⟩, l3, l4, l5, l6, l7⟩ (by rw [e70]) (fun x a b => by
      by_cases hx : x = 80
      · rw [hx]
        exact h80
      · by_cases hx2 : x = 81
        · rw [hx2]
          exact h81'
        · exact f x hx hx2)
  · obtain ⟨z', hz1, hz2⟩ := hz
    refine ⟨?_, ⟨z', hz1, hz2, fun hh => ?_⟩, h81, by rw [hk 8 (by decide) (by decide)]; exact l4, by rw [h9, e70]; omega, by rw [hk 10 (by decide) (by decide)]; exact l6, by rw [hk 11 (by decide) (by decide)]; exact l7⟩
    · unfold LZ
      rw [hk 6 (by decide) (by decide), hk 7 (by decide) (by decide), f 85 (by decide) (by decide), f 86 (by decide) (by decide)]
      exact l1
    · rw [h9, e70] at hh
      omega
theorem CX.lyi (X : CX sh ct b β s q N V) : ∃ mk, LYI ct β mk := by
  obtain ⟨mk, hK⟩ := X.2.2.2.1
  exact ⟨mk, hK.2.2.2.2⟩
end
section
variable (d : Nat) (sh : mbSh) (ct : mbCt) {b : Int} {β : Bk} {s : Sit} {q : Int} {N : Nat} {V : Int} {sz bt : Int → Int} {vl : Int → Int → Int}
theorem x_tellSize {n : Int} (S : SH sh) (X : CX sh ct b β s q N V) (n0 : 0 ≤ n) (n1 : n ≤ 12) : Mt YX3_tellSize d [.inr (.inr 80), .inl n] sh sh ct (pN fun c => c 80 2 = n ∧ CX sh c b β s q N V ∧ kF q ct c) := by
  obtain ⟨mk, hL⟩ := X.lyi
  obtain ⟨l1, ⟨z, z1, z2, z3⟩, l3, l4, l5, l6, l7⟩ := hL
  refine Mt.imp (c_tellSize d sh ct S X.L n0 n1 (by omega)) ?_
  rintro r c ⟨rfl, h1, h2, h3, h4⟩
  have e81 : c 81 = ct 81 := h2 81 (by decide)
  have := X.ly (c := c) (fun x hx => h2 x (fun z => hx (by simp at z; simp [z]))) h3 ⟨n.toNat, by omega, by omega⟩ (by rw [e81]; exact l3) (by
    rcases h4 with ⟨h4, h5⟩ | h4
    · refine Or.inl ⟨?_, e81⟩
      funext k
      by_cases hk2 : k = 2
      · rw [hk2, h1, h5]
      · by_cases hk9 : k = 9
        · rw [hk9, h4]
        · exact h3 k hk2 hk9
    · exact Or.inr h4)
  exact ⟨rfl, h1, this.1, this.2⟩
theorem x_tell {i n t : Int} (S : SH sh) (X : CX sh ct b β s q N V) (i0 : 0 ≤ i) (i1 : i < n) (h2 : ct 80 2 = n) (n1 : n ≤ 12) (t0 : -1 ≤ t) (t1 : t ≤ 1000) : Mt YX3_tell d [.inr (.inr 80), .inl i, .inl t] sh sh ct (pN fun c => (c 80 2 = n ∧ c 81 i = t ∧ ∀ k, k ≠ i → c 81 k = ct 81 k) ∧ CX sh c b β s q N V ∧ kF q ct c) := by
  obtain ⟨mk, hL⟩ := X.lyi
  obtain ⟨l1, ⟨z, z1, z2, z3⟩, l3, l4, l5, l6, l7⟩ := hL
  refine Mt.imp (c_tell d sh ct S X.L i0 i1 h2 n1 t0 t1 (l3 i i0 (by omega))) ?_
  rintro r c ⟨rfl, h1, h3, h4, h5, h6⟩
  have := X.ly (c := c) h4 (fun k _ h9 => h5 k h9) ⟨n.toNat, by rw [h5 2 (by decide)]; omega, by omega⟩ (fun k k0 k1 => by
    by_cases hk : k = i
    · rw [hk, h1]
      omega
    · rw [h3 k hk]
      exact l3 k k0 k1) (by
    rcases h6 with ⟨h6, h7⟩ | h6
    · refine Or.inl ⟨?_, ?_⟩
      · funext k
        by_cases hk9 : k = 9
        · rw [hk9, h6]
        · exact h5 k hk9
      · funext k
        by_cases hk : k = i
        · rw [hk, h1, h7]
        · exact h3 k hk
    · exact Or.inr h6)
  exact ⟨rfl, ⟨by rw [h5 2 (by decide)]; exact h2, h1, h3⟩, this.1, this.2⟩
theorem x_isTray {t : Int} (ht : i32 t) : Mt YX11_isTray d [.inl t] sh sh ct (pI fun r c => r = b01 (isTr t) ∧ c = ct) := by
  unfold i32 at ht
  have w := w32_id ht.1 ht.2
  refine Mt.of rfl (Nat.le_of_ble_eq_true rfl) ?_
  show G _ 0 [some (.inl t)] [] sh ct
  refine g_iload_n (q := 1) dX11_isTray_0 rfl rfl ?_
  refine g_if_lt (q := 4) (tg := 13) dX11_isTray_1 (by decide) rfl (fun c_1 => ?_) (fun c_1 => ?_)
  · refine g_iconst (q := 14) dX11_isTray_13 rfl ?_
    refine g_zreturn dX11_isTray_14 rfl (by decide +kernel) ?_
    refine ⟨_, rfl, ?_, rfl⟩; first | exact b01_t (by unfold w32 at *; omega) | exact b01_f (by unfold w32 at *; omega)
  · refine g_iload_n (q := 5) dX11_isTray_4 rfl rfl ?_
    refine g_iconst (q := 6) dX11_isTray_5 rfl ?_
    refine g_icmp_ge (q := 9) (tg := 13) dX11_isTray_6 (by decide) rfl (fun c_6 => ?_) (fun c_6 => ?_)
    · refine g_iconst (q := 14) dX11_isTray_13 rfl ?_
      refine g_zreturn dX11_isTray_14 rfl (by decide +kernel) ?_
      refine ⟨_, rfl, ?_, rfl⟩; first | exact b01_t (by unfold w32 at *; omega) | exact b01_f (by unfold w32 at *; omega)
    · refine g_iconst (q := 10) dX11_isTray_9 rfl ?_
      refine g_goto (q := 14) dX11_isTray_10 (by decide) ?_
      refine g_zreturn dX11_isTray_14 rfl (by decide +kernel) ?_
      refine ⟨_, rfl, ?_, rfl⟩; first | exact b01_t (by unfold w32 at *; omega) | exact b01_f (by unfold w32 at *; omega)
theorem x_refusedTray {t : Int} (S : SH sh) (X : CX sh ct b β s q N V) (T : TC ct sz bt vl) (ht : i32 t) : Mt YX11_refusedTray (d + 1) [.inr (.inr 0), .inl t] sh sh ct (pI fun r c => r = (if isTr t then (if sz t = -1 then -6 else 0) else -2) ∧ c = ct) := by
  have L := X.L
  refine Mt.of rfl (Nat.le_of_ble_eq_true rfl) ?_
  show G _ 0 [some (.inr (.inr 0)), some (.inl t)] [] sh ct
  refine g_iload_n (q := 1) dX11_refusedTray_0 rfl rfl ?_
  refine g_callS (q := 4) lX11_214 mX11_isTray sX11_isTray rfl (x_isTray d sh _ ht) shLe.rf (rmOk.mk (by omega) (by first | exact shLe.rf | assumption)) (Nat.le_of_ble_eq_true rfl) dX11_refusedTray_1 rfl rfl (kI fun r_ c_ hp => ?_)
  obtain ⟨hr, hq⟩ := hp
  replace hr := hr.symm
  replace hq := hq.symm
  subst hr hq
  refine g_if_ne (q := 7) (tg := 10) dX11_refusedTray_4 (by decide) rfl (fun c_4 => ?_) (fun c_4 => ?_)
  · have h4 := wbn.mp c_4
    have lt := L.tray h4.1 h4.2
    have st := S.tray h4.1 h4.2
    obtain ⟨T1, T2⟩ := T t h4.1 h4.2
    have hsz : -1 ≤ sz t ∧ sz t ≤ 40 := by omega
    have hw : w32 (sz t) = sz t := w32_id (by omega) (by omega)
    refine g_aload_n (q := 11) dX11_refusedTray_10 rfl rfl ?_
    refine g_getA (q := 14) (kI := 7) fX11_46 (by first | assumption | exact S.at _ rfl) dX11_refusedTray_11 rfl rfl (by first | exact lt.1 | assumption | exact L.at _ _ rfl) ?_
    refine g_iload_n (q := 15) dX11_refusedTray_14 rfl rfl ?_
    refine g_aaload (q := 16) (by first | assumption | exact S.at _ rfl) (by decide) (by omega) (by omega) (by omega) (by first | exact lt.1 | assumption | exact L.at _ _ rfl) dX11_refusedTray_15 rfl ?_
    refine g_callV (q := 19) lX11_217 mX9_isMissing nX9_isMissing rfl (c_isMissing d sh _ st.1) st.1 rfl rfl shLe.rf (rmOk.mk (by omega) (by first | exact shLe.rf | assumption)) (Nat.le_of_ble_eq_true rfl) dX11_refusedTray_16 rfl rfl (kI fun r_ c_ hp => ?_)
    obtain ⟨hr, hq⟩ := hp
    replace hr := hr.symm
    replace hq := hq.symm
    subst hr hq
    rw [T1, hw]
    refine g_if_eq (q := 22) (tg := 27) dX11_refusedTray_19 (by decide) rfl (fun c_19 => ?_) (fun c_19 => ?_)
    · have h := wb0.mp c_19
      refine g_iconst (q := 28) dX11_refusedTray_27 rfl ?_
      refine g_ireturn dX11_refusedTray_28 rfl ?_
      exact ⟨_, rfl, by rw [if_pos h4, if_neg h], rfl⟩
    · have h := wbn.mp c_19
      refine g_bipush (q := 24) dX11_refusedTray_22 (by decide +kernel) rfl ?_
      refine g_goto (q := 28) dX11_refusedTray_24 (by decide) ?_
      refine g_ireturn dX11_refusedTray_28 rfl ?_
      exact ⟨_, rfl, by rw [if_pos h4, if_pos h], rfl⟩
  · refine g_bipush (q := 9) dX11_refusedTray_7 (by decide +kernel) rfl ?_
    refine g_ireturn dX11_refusedTray_9 rfl ?_
    exact ⟨_, rfl, by rw [if_neg (wb0.mp c_4)], rfl⟩
theorem x_isMinute {x : Int} (S : SH sh) (X : CX sh ct b β s q N V) (h : i64 x) : Mt YX11_isMinute (d + 1) [.inr (.inr 0), .inr (.inl x)] sh sh ct (pI fun r c => r = b01 (0 ≤ x ∧ x / 10 < β.n 2 ∧ x % 10 < β.n 3) ∧ c = ct) := by
  have hb2 := X.2.2.1.2.2.2.2.1
  unfold i64 at h
  have hx : w64 x = x := w64_id h.1 h.2
  refine Mt.of rfl (Nat.le_of_ble_eq_true rfl) ?_
  show G _ 0 [some (.inr (.inr 0)), some (.inr (.inl x)), none] [] sh ct
  refine g_lload_n (q := 1) dX11_isMinute_0 rfl rfl ?_
  refine g_lconst0 (q := 2) dX11_isMinute_1 rfl ?_
  refine g_lcmp (q := 3) dX11_isMinute_2 rfl ?_
  refine g_if_lt (q := 6) (tg := 42) dX11_isMinute_3 (by decide) rfl (fun c_3 => ?_) (fun c_3 => ?_)
  · rw [cmp_lt, hx, show w64 0 = 0 from rfl] at c_3
    refine g_iconst (q := 43) dX11_isMinute_42 rfl ?_
    refine g_zreturn dX11_isMinute_43 rfl (by decide +kernel) ?_
    exact ⟨_, rfl, b01_f (by omega), rfl⟩
  · have h3 : ¬ w64 x < w64 0 := fun z => by have := cmp_lt.mpr z; omega
    rw [hx, show w64 0 = 0 from rfl] at h3
    refine g_lload_n (q := 7) dX11_isMinute_6 rfl rfl ?_
    refine g_ldc2 (q := 10) dX11_isMinute_7 kX11_437 rfl ?_
    refine g_lcmp (q := 11) dX11_isMinute_10 rfl ?_
    refine g_if_ge (q := 14) (tg := 42) dX11_isMinute_11 (by decide) rfl (fun c_11 => ?_) (fun c_11 => ?_)
    · have h60 : ¬ w64 x < w64 60 := fun z => by have := cmp_lt.mpr z; omega
      rw [hx, show w64 60 = 60 from rfl] at h60
      refine g_iconst (q := 43) dX11_isMinute_42 rfl ?_
      refine g_zreturn dX11_isMinute_43 rfl (by decide +kernel) ?_
      exact ⟨_, rfl, b01_f (by omega), rfl⟩
    · have h60 : w64 x < w64 60 := cmp_lt.mp (by omega)
      rw [hx, show w64 60 = 60 from rfl] at h60
      have hx3 : w32 x = x := w32_id (by omega) (by omega)
      have e1 : (w32 x).tdiv (w32 10) = x / 10 := by rw [hx3, td_pos (by omega)]; rfl
      have e2 : (w32 x).tmod (w32 10) = x % 10 := by rw [hx3, tm_pos (by omega)]; rfl
      refine g_aload_n (q := 15) dX11_isMinute_14 rfl rfl ?_
      refine g_lload_n (q := 16) dX11_isMinute_15 rfl rfl ?_
      refine g_l2i (q := 17) dX11_isMinute_16 rfl ?_
      refine g_bipush (q := 19) dX11_isMinute_17 (by decide +kernel) rfl ?_
      refine g_idiv (q := 20) dX11_isMinute_19 (by decide) rfl ?_
      rw [e1]
      refine g_callV (q := 23) lX11_135 mX11_isMember nX11_isMember rfl (x_isMember d sh _ S X (by unfold i32; omega)) (by first | assumption | exact S.at _ rfl) rfl rfl shLe.rf (rmOk.mk (by omega) (by first | exact shLe.rf | assumption)) (Nat.le_of_ble_eq_true rfl) dX11_isMinute_20 rfl rfl (kI fun r_ c_ hp => ?_)
      obtain ⟨hr, hq⟩ := hp
      replace hr := hr.symm
      replace hq := hq.symm
      subst hr hq
      refine g_if_eq (q := 26) (tg := 42) dX11_isMinute_23 (by decide) rfl (fun c_23 => ?_) (fun c_23 => ?_)
      · have h23 := wb0.mp c_23
        refine g_iconst (q := 43) dX11_isMinute_42 rfl ?_
        refine g_zreturn dX11_isMinute_43 rfl (by decide +kernel) ?_
        exact ⟨_, rfl, b01_f (fun z => h23 ⟨by omega, z.2.1⟩), rfl⟩
      · have h23 := wbn.mp c_23
        refine g_aload_n (q := 27) dX11_isMinute_26 rfl rfl ?_
        refine g_lload_n (q := 28) dX11_isMinute_27 rfl rfl ?_
        refine g_l2i (q := 29) dX11_isMinute_28 rfl ?_
        refine g_bipush (q := 31) dX11_isMinute_29 (by decide +kernel) rfl ?_
        refine g_irem (q := 32) dX11_isMinute_31 (by decide) rfl ?_
        rw [e2]
        refine g_callV (q := 35) lX11_158 mX11_isSaying nX11_isSaying rfl (x_isSaying d sh _ S X (by unfold i32; omega)) (by first | assumption | exact S.at _ rfl) rfl rfl shLe.rf (rmOk.mk (by omega) (by first | exact shLe.rf | assumption)) (Nat.le_of_ble_eq_true rfl) dX11_isMinute_32 rfl rfl (kI fun r_ c_ hp => ?_)
        obtain ⟨hr, hq⟩ := hp
        replace hr := hr.symm
        replace hq := hq.symm
        subst hr hq
        refine g_if_eq (q := 38) (tg := 42) dX11_isMinute_35 (by decide) rfl (fun c_35 => ?_) (fun c_35 => ?_)
        · have h35 := wb0.mp c_35
          refine g_iconst (q := 43) dX11_isMinute_42 rfl ?_
          refine g_zreturn dX11_isMinute_43 rfl (by decide +kernel) ?_
          exact ⟨_, rfl, b01_f (fun z => h35 ⟨by omega, z.2.2⟩), rfl⟩
        · have h35 := wbn.mp c_35
          refine g_iconst (q := 39) dX11_isMinute_38 rfl ?_
          refine g_goto (q := 43) dX11_isMinute_39 (by decide) ?_
          refine g_zreturn dX11_isMinute_43 rfl (by decide +kernel) ?_
          exact ⟨_, rfl, b01_t ⟨by omega, h23.2, h35.2⟩, rfl⟩
/-- the row is told -/
def RT (c : mbCt) (sz : Int → Int) (vl : Int → Int → Int) (t : Int) : Prop := c 80 2 = sz t ∧ told sz vl t (c 81)
theorem x_refusedNumbers {t most lost : Int} (S : SH sh) (X : CX sh ct b β s q N V) (T : TC ct sz bt vl) (ht : isTr t) (hm : 0 ≤ most ∧ most ≤ 12) (hl : lost = 0 ∨ lost = 1) (hsz : sz t ≠ -1) : Mt YX11_refusedNumbers (d + 2) [.inr (.inr 0), .inl t, .inl most, .inl lost] sh sh ct (pI fun r c => rowR β sz vl t most lost r ∧ (r = 0 → RT c sz vl t) ∧ CX sh c b β s q N V ∧ kF q ct c) := by
  have L := X.L
  have hq := X.qc
  have hb2 := X.2.2.1.2.2.2.2.1
  have lt := L.tray ht.1 ht.2
  have st := S.tray ht.1 ht.2
  obtain ⟨T1, T2⟩ := T t ht.1 ht.2
  have h40 : 0 ≤ sz t ∧ sz t ≤ 40 := by omega
  generalize hP : (pI fun r c => rowR β sz vl t most lost r ∧ (r = 0 → RT c sz vl t) ∧ CX sh c b β s q N V ∧ kF q ct c) = Po
  have bad : ¬ (1 ≤ sz t ∧ sz t ≤ most) → G (mkK YX11_refusedNumbers (d + 2) sh sh Po) 26 [some (.inr (.inr 0)), some (.inl t), some (.inl most), some (.inl lost), some (.inr (.inr (39 + 2 * t))), none, none, none] [] sh ct := by
    intro h
    refine g_bipush (q := 28) dX11_refusedNumbers_26 (by decide +kernel) rfl ?_
    refine g_ireturn dX11_refusedNumbers_28 rfl ?_
    rw [← hP]
    exact ⟨_, rfl, Or.inr (Or.inr (Or.inl ⟨ht, hsz, h, rfl⟩)), fun z => absurd z (by decide), X, kF.rf⟩
  refine Mt.of rfl (Nat.le_of_ble_eq_true rfl) ?_
  show G _ 0 [some (.inr (.inr 0)), some (.inl t), some (.inl most), some (.inl lost), none, none, none, none] [] sh ct
  refine g_aload_n (q := 1) dX11_refusedNumbers_0 rfl rfl ?_
  refine g_getA (q := 4) (kI := 7) fX11_46 (by first | exact st.1 | assumption | exact S.at _ rfl) dX11_refusedNumbers_1 rfl rfl (by first | exact lt.1 | assumption | exact L.at _ _ rfl) ?_
  refine g_iload_n (q := 5) dX11_refusedNumbers_4 rfl rfl ?_
  refine g_aaload (q := 6) (by first | exact st.1 | assumption | exact S.at _ rfl) (by decide) (by omega) (by omega) (by omega) (by first | exact lt.1 | assumption | exact L.at _ _ rfl) dX11_refusedNumbers_5 rfl ?_
  refine s_astore_8_4 (q := 8) dX11_refusedNumbers_6 rfl rfl rfl ?_
  refine g_aload (q := 10) dX11_refusedNumbers_8 rfl rfl ?_
  refine g_getI (q := 13) (kI := 1) fX11_225 (by first | exact st.1 | assumption | exact S.at _ rfl) dX11_refusedNumbers_10 rfl rfl ?_
  rw [T1]
  refine g_iconst (q := 14) dX11_refusedNumbers_13 rfl ?_
  refine g_icmp_lt (q := 17) (tg := 26) dX11_refusedNumbers_14 (by decide) rfl (fun c_14 => ?_) (fun c_14 => ?_)
  · exact bad (by unfold w32 at c_14; omega)
  · have h1 : 1 ≤ sz t := by unfold w32 at c_14; omega
    refine g_aload (q := 19) dX11_refusedNumbers_17 rfl rfl ?_
    refine g_getI (q := 22) (kI := 1) fX11_225 (by first | exact st.1 | assumption | exact S.at _ rfl) dX11_refusedNumbers_19 rfl rfl ?_
    rw [T1]
    refine g_iload_n (q := 23) dX11_refusedNumbers_22 rfl rfl ?_
    refine g_icmp_le (q := 26) (tg := 29) dX11_refusedNumbers_23 (by decide) rfl (fun c_23 => ?_) (fun c_23 => ?_)
    · have h2 : sz t ≤ most := by unfold w32 at c_23; omega
      refine g_aload_n (q := 30) dX11_refusedNumbers_29 rfl rfl ?_
      refine g_getO (q := 33) (kI := 13) fX11_95 (by first | exact st.1 | assumption | exact S.at _ rfl) dX11_refusedNumbers_30 rfl rfl (by first | assumption | exact L.at _ _ rfl | exact LK.at (by assumption) _ _ rfl | ((repeat first | rewrite [wr_na (by decide)] | rewrite [wr_nk (by decide)] | rewrite [wa_na (by decide)]); first | assumption | exact LK.at (by assumption) _ _ rfl) | exact rfl) ?_
      refine g_aload (q := 35) dX11_refusedNumbers_33 rfl rfl ?_
      refine g_getI (q := 38) (kI := 1) fX11_225 (by first | exact st.1 | assumption | exact S.at _ rfl) dX11_refusedNumbers_35 rfl rfl ?_
      rw [T1]
      refine g_callV (q := 41) lX11_266 mX3_tellSize nX3_tellSize rfl (x_tellSize (d + 1) sh _ S X (n := sz t) (by omega) (by omega)) (by first | assumption | exact S.at _ rfl) rfl rfl shLe.rf (rmOk.mk (by omega) (by first | exact shLe.rf | assumption)) (Nat.le_of_ble_eq_true rfl) dX11_refusedNumbers_38 rfl rfl (kN fun c1 hp => ?_)
      obtain ⟨g1, X1, f1⟩ := hp
      refine g_iconst (q := 42) dX11_refusedNumbers_41 rfl ?_
      refine s_istore_8_5 (q := 44) dX11_refusedNumbers_42 rfl rfl rfl ?_
      refine g_for (fun i => [some (.inr (.inr 0)), some (.inl t), some (.inl most), some (.inl lost), some (.inr (.inr (39 + 2 * t))), some (.inl i), none, none]) (fun i c => 0 ≤ i ∧ CX sh c b β s q N V ∧ kF q ct c ∧ c 80 2 = sz t ∧ ∀ j, 0 ≤ j → j < i → c 81 j = vl t j ∧ okN β lost (vl t j)) (sz t) ?_ ?_ (i := 0) (by omega) ⟨by omega, X1, f1, g1, fun j _ _ => by omega⟩ (by simp [lsSub])
      · rintro i c hi ⟨i0, X2, f2, g2, hv⟩ kk
        have L2 := X2.L
        have Tc := T.k (f2.g hq)
        obtain ⟨T3, T4⟩ := Tc t ht.1 ht.2
        have hvl : c (39 + 2 * t + 1) i = vl t i ∧ i64 (vl t i) := by
          rcases T4 with h | h
          · exact absurd h hsz
          · exact h.2.2 i i0 hi
        refine g_iload (q := 46) dX11_refusedNumbers_44 rfl rfl ?_
        refine g_aload (q := 48) dX11_refusedNumbers_46 rfl rfl ?_
        refine g_getI (q := 51) (kI := 1) fX11_225 (by first | exact st.1 | assumption | exact S.at _ rfl) dX11_refusedNumbers_48 rfl rfl ?_
        rw [T3]
        refine g_icmp_ge (q := 54) (tg := 106) dX11_refusedNumbers_51 (by decide) rfl (fun c_51 => ?_) (fun c_51 => ?_)
        · exact absurd c_51 (by unfold w32; omega)
        · refine g_aload (q := 56) dX11_refusedNumbers_54 rfl rfl ?_
          refine g_iload (q := 58) dX11_refusedNumbers_56 rfl rfl ?_
          refine g_callV (q := 61) lX11_226 mX9_at nX9_at rfl (c_at (d + 1) sh _ (trAt_t S L2 ht.1 ht.2) (by omega) (by omega) i0 (by omega)) st.1 rfl rfl shLe.rf (rmOk.mk (by omega) (by first | exact shLe.rf | assumption)) (Nat.le_of_ble_eq_true rfl) dX11_refusedNumbers_58 rfl rfl (kL fun r_ c_ hp => ?_)
          obtain ⟨hr, hq⟩ := hp
          replace hr := hr.symm
          replace hq := hq.symm
          subst hr hq
          rw [hvl.1]
          refine s_lstore_8_6 (q := 63) dX11_refusedNumbers_61 rfl rfl rfl ?_
          refine g_aload_n (q := 64) dX11_refusedNumbers_63 rfl rfl ?_
          refine g_lload (q := 66) dX11_refusedNumbers_64 rfl rfl ?_
          refine g_callV (q := 69) lX11_433 mX11_isMinute nX11_isMinute rfl (x_isMinute d sh _ S X2 hvl.2) (by first | assumption | exact S.at _ rfl) rfl rfl shLe.rf (rmOk.mk (by omega) (by first | exact shLe.rf | assumption)) (Nat.le_of_ble_eq_true rfl) dX11_refusedNumbers_66 rfl rfl (kI fun r_ c_ hp => ?_)
          obtain ⟨hr, hq⟩ := hp
          replace hr := hr.symm
          replace hq := hq.symm
          subst hr hq
          have go : okN β lost (vl t i) → G (mkK YX11_refusedNumbers (d + 2) sh sh Po) 88 [some (.inr (.inr 0)), some (.inl t), some (.inl most), some (.inl lost), some (.inr (.inr (39 + 2 * t))), some (.inl i), some (.inr (.inl (vl t i))), none] [] sh c := by
            intro hok
            have hr : -1 ≤ vl t i ∧ vl t i ≤ 1000 := by omega
            refine g_aload_n (q := 89) dX11_refusedNumbers_88 rfl rfl ?_
            refine g_getO (q := 92) (kI := 13) fX11_95 (by first | assumption | exact S.at _ rfl) dX11_refusedNumbers_89 rfl rfl (by first | assumption | exact L.at _ _ rfl | exact LK.at (by assumption) _ _ rfl | ((repeat first | rewrite [wr_na (by decide)] | rewrite [wr_nk (by decide)] | rewrite [wa_na (by decide)]); first | assumption | exact LK.at (by assumption) _ _ rfl) | exact rfl) ?_
            refine g_iload (q := 94) dX11_refusedNumbers_92 rfl rfl ?_
            refine g_lload (q := 96) dX11_refusedNumbers_94 rfl rfl ?_
            refine g_l2i (q := 97) dX11_refusedNumbers_96 rfl ?_
            refine g_callV (q := 100) lX11_269 mX3_tell nX3_tell rfl (x_tell (d + 1) sh _ S X2 i0 hi g2 (by omega) hr.1 hr.2) (by first | assumption | exact S.at _ rfl) rfl rfl shLe.rf (rmOk.mk (by omega) (by first | exact shLe.rf | assumption)) (Nat.le_of_ble_eq_true rfl) dX11_refusedNumbers_97 rfl rfl (kN fun c3 hp => ?_)
            obtain ⟨⟨k1, k2, k3⟩, X3, f3⟩ := hp
            refine s_iinc_8_5 (q := 103) dX11_refusedNumbers_100 rfl rfl rfl ?_
            refine g_goto (q := 44) dX11_refusedNumbers_103 (by decide) ?_
            refine kk _ _ (by simp [lsSub]) ⟨by omega, X3, f2.tr f3, k1, fun j j0 j1 => ?_⟩
            by_cases hj : j = i
            · rw [hj, k2]
              exact ⟨rfl, hok⟩
            · rw [k3 j hj]
              exact hv j j0 (by omega)
          have no : ¬ okN β lost (vl t i) → G (mkK YX11_refusedNumbers (d + 2) sh sh Po) 85 [some (.inr (.inr 0)), some (.inl t), some (.inl most), some (.inl lost), some (.inr (.inr (39 + 2 * t))), some (.inl i), some (.inr (.inl (vl t i))), none] [] sh c := by
            intro hok
            refine g_bipush (q := 87) dX11_refusedNumbers_85 (by decide +kernel) rfl ?_
            refine g_ireturn dX11_refusedNumbers_87 rfl ?_
            rw [← hP]
            exact ⟨_, rfl, Or.inr (Or.inr (Or.inr (Or.inl ⟨ht, ⟨h1, h2⟩, ⟨i, i0, hi, hok⟩, rfl⟩))), fun z => absurd z (by decide), X2, f2⟩
          refine g_if_ne (q := 72) (tg := 88) dX11_refusedNumbers_69 (by decide) rfl (fun c_69 => ?_) (fun c_69 => ?_)
          · exact go (Or.inl (wbn.mp c_69))
          · have hn := wb0.mp c_69
            refine g_iload_n (q := 73) dX11_refusedNumbers_72 rfl rfl ?_
            refine g_if_eq (q := 76) (tg := 85) dX11_refusedNumbers_73 (by decide) rfl (fun c_73 => ?_) (fun c_73 => ?_)
            · refine no ?_
              rintro (h | h)
              · exact hn h
              · rw [h.1] at c_73
                exact absurd c_73 (by decide)
            · have hl1 : lost = 1 := by
                rcases hl with h | h
                · rw [h] at c_73
                  exact absurd rfl c_73
                · exact h
              have hw : w64 (vl t i) = vl t i := w64_id hvl.2.1 hvl.2.2
              refine g_lload (q := 78) dX11_refusedNumbers_76 rfl rfl ?_
              refine g_ldc2 (q := 81) dX11_refusedNumbers_78 kX11_240 rfl ?_
              refine g_lcmp (q := 82) dX11_refusedNumbers_81 rfl ?_
              refine g_if_eq (q := 85) (tg := 88) dX11_refusedNumbers_82 (by decide) rfl (fun c_82 => ?_) (fun c_82 => ?_)
              · have h := cmp_eq.mp c_82
                rw [hw] at h
                exact go (Or.inr ⟨hl1, h⟩)
              · refine no ?_
                rintro (h | h)
                · exact hn h
                · exact c_82 (cmp_eq.mpr (by rw [h.2]))
      · rintro c ⟨-, X2, f2, g2, hv⟩
        have L2 := X2.L
        have Tc := T.k (f2.g hq)
        obtain ⟨T3, T4⟩ := Tc t ht.1 ht.2
        refine g_iload (q := 46) dX11_refusedNumbers_44 rfl rfl ?_
        refine g_aload (q := 48) dX11_refusedNumbers_46 rfl rfl ?_
        refine g_getI (q := 51) (kI := 1) fX11_225 (by first | exact st.1 | assumption | exact S.at _ rfl) dX11_refusedNumbers_48 rfl rfl ?_
        rw [T3]
        refine g_icmp_ge (q := 54) (tg := 106) dX11_refusedNumbers_51 (by decide) rfl (fun c_51 => ?_) (fun c_51 => ?_)
        · refine g_iconst (q := 107) dX11_refusedNumbers_106 rfl ?_
          refine g_ireturn dX11_refusedNumbers_107 rfl ?_
          rw [← hP]
          exact ⟨_, rfl, Or.inr (Or.inr (Or.inr (Or.inr ⟨⟨ht, ⟨h1, h2⟩, fun j j0 j1 => (hv j j0 j1).2⟩, rfl⟩))), fun _ => ⟨g2, fun j hj => (hv j (by omega) hj).1⟩, X2, f2⟩
        · exact absurd c_51 (Int.lt_irrefl _)
    · exact bad (by unfold w32 at c_23; omega)
/-- a row that was asked about -/
theorem x_refusedMinutes {t : Int} (S : SH sh) (X : CX sh ct b β s q N V) (T : TC ct sz bt vl) (ht : i32 t) : Mt YX11_refusedMinutes (d + 3) [.inr (.inr 0), .inl t] sh sh ct (pI fun r c => rowR β sz vl t 12 0 r ∧ (r = 0 → RT c sz vl t) ∧ CX sh c b β s q N V ∧ kF q ct c) := by
  refine Mt.of rfl (Nat.le_of_ble_eq_true rfl) ?_
  show G _ 0 [some (.inr (.inr 0)), some (.inl t), none] [] sh ct
  refine g_aload_n (q := 1) dX11_refusedMinutes_0 rfl rfl ?_
  refine g_iload_n (q := 2) dX11_refusedMinutes_1 rfl rfl ?_
  refine g_callV (q := 5) lX11_233 mX11_refusedTray nX11_refusedTray rfl (x_refusedTray (d + 1) sh _ S X T ht) (by first | assumption | exact S.at _ rfl) rfl rfl shLe.rf (rmOk.mk (by omega) (by first | exact shLe.rf | assumption)) (Nat.le_of_ble_eq_true rfl) dX11_refusedMinutes_2 rfl rfl (kI fun r_ c_ hp => ?_)
  obtain ⟨hr, hq⟩ := hp
  replace hr := hr.symm
  replace hq := hq.symm
  subst hr hq
  by_cases h4 : isTr t
  · by_cases hs : sz t = -1
    · rw [if_pos h4, if_pos hs]
      refine s_istore_n_3_2 (q := 6) dX11_refusedMinutes_5 rfl rfl rfl ?_
      refine g_iload_n (q := 7) dX11_refusedMinutes_6 rfl rfl ?_
      refine g_if_eq (q := 10) (tg := 14) dX11_refusedMinutes_7 (by decide) rfl (fun c_7 => ?_) (fun c_7 => ?_)
      · exact absurd c_7 (by decide)
      · refine g_iload_n (q := 11) dX11_refusedMinutes_10 rfl rfl ?_
        refine g_goto (q := 22) dX11_refusedMinutes_11 (by decide) ?_
        refine g_ireturn dX11_refusedMinutes_22 rfl ?_
        exact ⟨_, rfl, Or.inr (Or.inl ⟨h4, hs, rfl⟩), fun z => absurd z (by decide), X, kF.rf⟩
    · rw [if_pos h4, if_neg hs]
      refine s_istore_n_3_2 (q := 6) dX11_refusedMinutes_5 rfl rfl rfl ?_
      refine g_iload_n (q := 7) dX11_refusedMinutes_6 rfl rfl ?_
      refine g_if_eq (q := 10) (tg := 14) dX11_refusedMinutes_7 (by decide) rfl (fun c_7 => ?_) (fun c_7 => ?_)
      · refine g_aload_n (q := 15) dX11_refusedMinutes_14 rfl rfl ?_
        refine g_iload_n (q := 16) dX11_refusedMinutes_15 rfl rfl ?_
        refine g_bipush (q := 18) dX11_refusedMinutes_16 (by decide +kernel) rfl ?_
        refine g_iconst (q := 19) dX11_refusedMinutes_18 rfl ?_
        refine g_callV (q := 22) lX11_354 mX11_refusedNumbers nX11_refusedNumbers rfl (x_refusedNumbers d sh _ S X T h4 (by decide) (by decide) hs) (by first | assumption | exact S.at _ rfl) rfl rfl shLe.rf (rmOk.mk (by omega) (by first | exact shLe.rf | assumption)) (Nat.le_of_ble_eq_true rfl) dX11_refusedMinutes_19 rfl rfl (kI fun r c1 hp => ?_)
        refine g_ireturn dX11_refusedMinutes_22 rfl ?_
        exact ⟨_, rfl, hp⟩
      · exact absurd rfl c_7
  · rw [if_neg h4]
    refine s_istore_n_3_2 (q := 6) dX11_refusedMinutes_5 rfl rfl rfl ?_
    refine g_iload_n (q := 7) dX11_refusedMinutes_6 rfl rfl ?_
    refine g_if_eq (q := 10) (tg := 14) dX11_refusedMinutes_7 (by decide) rfl (fun c_7 => ?_) (fun c_7 => ?_)
    · exact absurd c_7 (by decide)
    · refine g_iload_n (q := 11) dX11_refusedMinutes_10 rfl rfl ?_
      refine g_goto (q := 22) dX11_refusedMinutes_11 (by decide) ?_
      refine g_ireturn dX11_refusedMinutes_22 rfl ?_
      exact ⟨_, rfl, Or.inl ⟨h4, rfl⟩, fun z => absurd z (by decide), X, kF.rf⟩
end
