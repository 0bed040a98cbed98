/-! texts: their signs, their lengths -/
theorem dJ0_isLatin1_aae02_0 : decode cJ0_isLatin1_aae02 0 = .ok (.getstatic 38, 3) := by decide +kernel
theorem dJ0_isLatin1_aae02_3 : decode cJ0_isLatin1_aae02 3 = .ok (.ifCond .eq 14, 3) := by decide +kernel
theorem dJ0_isLatin1_aae02_6 : decode cJ0_isLatin1_aae02 6 = .ok (.aload_n 0, 1) := by decide +kernel
theorem dJ0_isLatin1_aae02_7 : decode cJ0_isLatin1_aae02 7 = .ok (.getfield 15, 3) := by decide +kernel
theorem dJ0_isLatin1_aae02_10 : decode cJ0_isLatin1_aae02 10 = .ok (.ifCond .ne 7, 3) := by decide +kernel
theorem dJ0_isLatin1_aae02_13 : decode cJ0_isLatin1_aae02 13 = .ok (.iconst 1, 1) := by decide +kernel
theorem dJ0_isLatin1_aae02_14 : decode cJ0_isLatin1_aae02 14 = .ok (.goto 4, 3) := by decide +kernel
theorem dJ0_isLatin1_aae02_17 : decode cJ0_isLatin1_aae02 17 = .ok (.iconst 0, 1) := by decide +kernel
theorem dJ0_isLatin1_aae02_18 : decode cJ0_isLatin1_aae02 18 = .ok (.ireturn, 1) := by decide +kernel
theorem dJ0_coder_7d493_0 : decode cJ0_coder_7d493 0 = .ok (.getstatic 38, 3) := by decide +kernel
theorem dJ0_coder_7d493_3 : decode cJ0_coder_7d493 3 = .ok (.ifCond .eq 10, 3) := by decide +kernel
theorem dJ0_coder_7d493_6 : decode cJ0_coder_7d493 6 = .ok (.aload_n 0, 1) := by decide +kernel
theorem dJ0_coder_7d493_7 : decode cJ0_coder_7d493 7 = .ok (.getfield 15, 3) := by decide +kernel
theorem dJ0_coder_7d493_10 : decode cJ0_coder_7d493 10 = .ok (.goto 4, 3) := by decide +kernel
theorem dJ0_coder_7d493_13 : decode cJ0_coder_7d493 13 = .ok (.iconst 1, 1) := by decide +kernel
theorem dJ0_coder_7d493_14 : decode cJ0_coder_7d493 14 = .ok (.ireturn, 1) := by decide +kernel
theorem dJ0_length_8abf5_0 : decode cJ0_length_8abf5 0 = .ok (.aload_n 0, 1) := by decide +kernel
theorem dJ0_length_8abf5_1 : decode cJ0_length_8abf5 1 = .ok (.getfield 9, 3) := by decide +kernel
theorem dJ0_length_8abf5_4 : decode cJ0_length_8abf5 4 = .ok (.arraylength, 1) := by decide +kernel
theorem dJ0_length_8abf5_5 : decode cJ0_length_8abf5 5 = .ok (.aload_n 0, 1) := by decide +kernel
theorem dJ0_length_8abf5_6 : decode cJ0_length_8abf5 6 = .ok (.invokevirtual 335, 3) := by decide +kernel
theorem dJ0_length_8abf5_9 : decode cJ0_length_8abf5 9 = .ok (.ishr, 1) := by decide +kernel
theorem dJ0_length_8abf5_10 : decode cJ0_length_8abf5 10 = .ok (.ireturn, 1) := by decide +kernel
theorem dJ0_charAt_5068e_0 : decode cJ0_charAt_5068e 0 = .ok (.aload_n 0, 1) := by decide +kernel
theorem dJ0_charAt_5068e_1 : decode cJ0_charAt_5068e 1 = .ok (.invokevirtual 492, 3) := by decide +kernel
theorem dJ0_charAt_5068e_4 : decode cJ0_charAt_5068e 4 = .ok (.ifCond .eq 12, 3) := by decide +kernel
theorem dJ0_charAt_5068e_7 : decode cJ0_charAt_5068e 7 = .ok (.aload_n 0, 1) := by decide +kernel
theorem dJ0_charAt_5068e_8 : decode cJ0_charAt_5068e 8 = .ok (.getfield 9, 3) := by decide +kernel
theorem dJ0_charAt_5068e_11 : decode cJ0_charAt_5068e 11 = .ok (.iload_n 1, 1) := by decide +kernel
theorem dJ0_charAt_5068e_12 : decode cJ0_charAt_5068e 12 = .ok (.invokestatic 495, 3) := by decide +kernel
theorem dJ0_charAt_5068e_15 : decode cJ0_charAt_5068e 15 = .ok (.ireturn, 1) := by decide +kernel
theorem dJ0_charAt_5068e_16 : decode cJ0_charAt_5068e 16 = .ok (.aload_n 0, 1) := by decide +kernel
theorem dJ0_charAt_5068e_17 : decode cJ0_charAt_5068e 17 = .ok (.getfield 9, 3) := by decide +kernel
theorem dJ0_charAt_5068e_20 : decode cJ0_charAt_5068e 20 = .ok (.iload_n 1, 1) := by decide +kernel
theorem dJ0_charAt_5068e_21 : decode cJ0_charAt_5068e 21 = .ok (.invokestatic 498, 3) := by decide +kernel
theorem dJ0_charAt_5068e_24 : decode cJ0_charAt_5068e 24 = .ok (.ireturn, 1) := by decide +kernel
theorem dJ1_charAt_3b067_0 : decode cJ1_charAt_3b067 0 = .ok (.iload_n 1, 1) := by decide +kernel
theorem dJ1_charAt_3b067_1 : decode cJ1_charAt_3b067 1 = .ok (.aload_n 0, 1) := by decide +kernel
theorem dJ1_charAt_3b067_2 : decode cJ1_charAt_3b067 2 = .ok (.arraylength, 1) := by decide +kernel
theorem dJ1_charAt_3b067_3 : decode cJ1_charAt_3b067 3 = .ok (.invokestatic 9, 3) := by decide +kernel
theorem dJ1_charAt_3b067_6 : decode cJ1_charAt_3b067 6 = .ok (.aload_n 0, 1) := by decide +kernel
theorem dJ1_charAt_3b067_7 : decode cJ1_charAt_3b067 7 = .ok (.iload_n 1, 1) := by decide +kernel
theorem dJ1_charAt_3b067_8 : decode cJ1_charAt_3b067 8 = .ok (.baload, 1) := by decide +kernel
theorem dJ1_charAt_3b067_9 : decode cJ1_charAt_3b067 9 = .ok (.sipush 255, 3) := by decide +kernel
theorem dJ1_charAt_3b067_12 : decode cJ1_charAt_3b067 12 = .ok (.iand, 1) := by decide +kernel
theorem dJ1_charAt_3b067_13 : decode cJ1_charAt_3b067 13 = .ok (.i2c, 1) := by decide +kernel
theorem dJ1_charAt_3b067_14 : decode cJ1_charAt_3b067 14 = .ok (.ireturn, 1) := by decide +kernel
theorem dJ0_checkIndex_df160_0 : decode cJ0_checkIndex_df160 0 = .ok (.iload_n 0, 1) := by decide +kernel
theorem dJ0_checkIndex_df160_1 : decode cJ0_checkIndex_df160 1 = .ok (.iload_n 1, 1) := by decide +kernel
theorem dJ0_checkIndex_df160_2 : decode cJ0_checkIndex_df160 2 = .ok (.getstatic 1053, 3) := by decide +kernel
theorem dJ0_checkIndex_df160_5 : decode cJ0_checkIndex_df160 5 = .ok (.invokestatic 1059, 3) := by decide +kernel
theorem dJ0_checkIndex_df160_8 : decode cJ0_checkIndex_df160 8 = .ok (.pop, 1) := by decide +kernel
theorem dJ0_checkIndex_df160_9 : decode cJ0_checkIndex_df160 9 = .ok (.return_, 1) := by decide +kernel
theorem dJ3_checkIndex_8e157_0 : decode cJ3_checkIndex_8e157 0 = .ok (.iload_n 0, 1) := by decide +kernel
theorem dJ3_checkIndex_8e157_1 : decode cJ3_checkIndex_8e157 1 = .ok (.ifCond .lt 8, 3) := by decide +kernel
theorem dJ3_checkIndex_8e157_4 : decode cJ3_checkIndex_8e157 4 = .ok (.iload_n 0, 1) := by decide +kernel
theorem dJ3_checkIndex_8e157_5 : decode cJ3_checkIndex_8e157 5 = .ok (.iload_n 1, 1) := by decide +kernel
theorem dJ3_checkIndex_8e157_6 : decode cJ3_checkIndex_8e157 6 = .ok (.if_icmp .lt 10, 3) := by decide +kernel
theorem dJ3_checkIndex_8e157_9 : decode cJ3_checkIndex_8e157 9 = .ok (.aload_n 2, 1) := by decide +kernel
theorem dJ3_checkIndex_8e157_10 : decode cJ3_checkIndex_8e157 10 = .ok (.iload_n 0, 1) := by decide +kernel
theorem dJ3_checkIndex_8e157_11 : decode cJ3_checkIndex_8e157 11 = .ok (.iload_n 1, 1) := by decide +kernel
theorem dJ3_checkIndex_8e157_12 : decode cJ3_checkIndex_8e157 12 = .ok (.invokestatic 95, 3) := by decide +kernel
theorem dJ3_checkIndex_8e157_15 : decode cJ3_checkIndex_8e157 15 = .ok (.athrow, 1) := by decide +kernel
theorem dJ3_checkIndex_8e157_16 : decode cJ3_checkIndex_8e157 16 = .ok (.iload_n 0, 1) := by decide +kernel
theorem dJ3_checkIndex_8e157_17 : decode cJ3_checkIndex_8e157 17 = .ok (.ireturn, 1) := by decide +kernel
theorem dJ0_indexOf_0f7a4_0 : decode cJ0_indexOf_0f7a4 0 = .ok (.aload_n 0, 1) := by decide +kernel
theorem dJ0_indexOf_0f7a4_1 : decode cJ0_indexOf_0f7a4 1 = .ok (.iload_n 1, 1) := by decide +kernel
theorem dJ0_indexOf_0f7a4_2 : decode cJ0_indexOf_0f7a4 2 = .ok (.iconst 0, 1) := by decide +kernel
theorem dJ0_indexOf_0f7a4_3 : decode cJ0_indexOf_0f7a4 3 = .ok (.invokevirtual 633, 3) := by decide +kernel
theorem dJ0_indexOf_0f7a4_6 : decode cJ0_indexOf_0f7a4 6 = .ok (.ireturn, 1) := by decide +kernel
theorem dJ0_indexOf_7cf53_0 : decode cJ0_indexOf_7cf53 0 = .ok (.aload_n 0, 1) := by decide +kernel
theorem dJ0_indexOf_7cf53_1 : decode cJ0_indexOf_7cf53 1 = .ok (.invokevirtual 492, 3) := by decide +kernel
theorem dJ0_indexOf_7cf53_4 : decode cJ0_indexOf_7cf53 4 = .ok (.ifCond .eq 19, 3) := by decide +kernel
theorem dJ0_indexOf_7cf53_7 : decode cJ0_indexOf_7cf53 7 = .ok (.aload_n 0, 1) := by decide +kernel
theorem dJ0_indexOf_7cf53_8 : decode cJ0_indexOf_7cf53 8 = .ok (.getfield 9, 3) := by decide +kernel
theorem dJ0_indexOf_7cf53_11 : decode cJ0_indexOf_7cf53 11 = .ok (.iload_n 1, 1) := by decide +kernel
theorem dJ0_indexOf_7cf53_12 : decode cJ0_indexOf_7cf53 12 = .ok (.iload_n 2, 1) := by decide +kernel
theorem dJ0_indexOf_7cf53_13 : decode cJ0_indexOf_7cf53 13 = .ok (.aload_n 0, 1) := by decide +kernel
theorem dJ0_indexOf_7cf53_14 : decode cJ0_indexOf_7cf53 14 = .ok (.invokevirtual 505, 3) := by decide +kernel
theorem dJ0_indexOf_7cf53_17 : decode cJ0_indexOf_7cf53 17 = .ok (.invokestatic 637, 3) := by decide +kernel
theorem dJ0_indexOf_7cf53_20 : decode cJ0_indexOf_7cf53 20 = .ok (.goto 16, 3) := by decide +kernel
theorem dJ0_indexOf_7cf53_23 : decode cJ0_indexOf_7cf53 23 = .ok (.aload_n 0, 1) := by decide +kernel
theorem dJ0_indexOf_7cf53_24 : decode cJ0_indexOf_7cf53 24 = .ok (.getfield 9, 3) := by decide +kernel
theorem dJ0_indexOf_7cf53_27 : decode cJ0_indexOf_7cf53 27 = .ok (.iload_n 1, 1) := by decide +kernel
theorem dJ0_indexOf_7cf53_28 : decode cJ0_indexOf_7cf53 28 = .ok (.iload_n 2, 1) := by decide +kernel
theorem dJ0_indexOf_7cf53_29 : decode cJ0_indexOf_7cf53 29 = .ok (.aload_n 0, 1) := by decide +kernel
theorem dJ0_indexOf_7cf53_30 : decode cJ0_indexOf_7cf53 30 = .ok (.invokevirtual 505, 3) := by decide +kernel
theorem dJ0_indexOf_7cf53_33 : decode cJ0_indexOf_7cf53 33 = .ok (.invokestatic 640, 3) := by decide +kernel
theorem dJ0_indexOf_7cf53_36 : decode cJ0_indexOf_7cf53 36 = .ok (.ireturn, 1) := by decide +kernel
theorem dJ1_canEncode_9a6ad_0 : decode cJ1_canEncode_9a6ad 0 = .ok (.iload_n 0, 1) := by decide +kernel
theorem dJ1_canEncode_9a6ad_1 : decode cJ1_canEncode_9a6ad 1 = .ok (.ifCond .lt 14, 3) := by decide +kernel
theorem dJ1_canEncode_9a6ad_4 : decode cJ1_canEncode_9a6ad 4 = .ok (.iload_n 0, 1) := by decide +kernel
theorem dJ1_canEncode_9a6ad_5 : decode cJ1_canEncode_9a6ad 5 = .ok (.sipush 255, 3) := by decide +kernel
theorem dJ1_canEncode_9a6ad_8 : decode cJ1_canEncode_9a6ad 8 = .ok (.if_icmp .gt 7, 3) := by decide +kernel
theorem dJ1_canEncode_9a6ad_11 : decode cJ1_canEncode_9a6ad 11 = .ok (.iconst 1, 1) := by decide +kernel
theorem dJ1_canEncode_9a6ad_12 : decode cJ1_canEncode_9a6ad 12 = .ok (.goto 4, 3) := by decide +kernel
theorem dJ1_canEncode_9a6ad_15 : decode cJ1_canEncode_9a6ad 15 = .ok (.iconst 0, 1) := by decide +kernel
theorem dJ1_canEncode_9a6ad_16 : decode cJ1_canEncode_9a6ad 16 = .ok (.ireturn, 1) := by decide +kernel
theorem dJ1_indexOf_4cfef_0 : decode cJ1_indexOf_4cfef 0 = .ok (.iload_n 1, 1) := by decide +kernel
theorem dJ1_indexOf_4cfef_1 : decode cJ1_indexOf_4cfef 1 = .ok (.invokestatic 88, 3) := by decide +kernel
theorem dJ1_indexOf_4cfef_4 : decode cJ1_indexOf_4cfef 4 = .ok (.ifCond .ne 5, 3) := by decide +kernel
theorem dJ1_indexOf_4cfef_7 : decode cJ1_indexOf_4cfef 7 = .ok (.iconst (-1), 1) := by decide +kernel
theorem dJ1_indexOf_4cfef_8 : decode cJ1_indexOf_4cfef 8 = .ok (.ireturn, 1) := by decide +kernel
theorem dJ1_indexOf_4cfef_9 : decode cJ1_indexOf_4cfef 9 = .ok (.iload_n 2, 1) := by decide +kernel
theorem dJ1_indexOf_4cfef_10 : decode cJ1_indexOf_4cfef 10 = .ok (.iconst 0, 1) := by decide +kernel
theorem dJ1_indexOf_4cfef_11 : decode cJ1_indexOf_4cfef 11 = .ok (.invokestatic 92, 3) := by decide +kernel
theorem dJ1_indexOf_4cfef_14 : decode cJ1_indexOf_4cfef 14 = .ok (.istore_n 2, 1) := by decide +kernel
theorem dJ1_indexOf_4cfef_15 : decode cJ1_indexOf_4cfef 15 = .ok (.iload_n 3, 1) := by decide +kernel
theorem dJ1_indexOf_4cfef_16 : decode cJ1_indexOf_4cfef 16 = .ok (.aload_n 0, 1) := by decide +kernel
theorem dJ1_indexOf_4cfef_17 : decode cJ1_indexOf_4cfef 17 = .ok (.arraylength, 1) := by decide +kernel
theorem dJ1_indexOf_4cfef_18 : decode cJ1_indexOf_4cfef 18 = .ok (.invokestatic 38, 3) := by decide +kernel
theorem dJ1_indexOf_4cfef_21 : decode cJ1_indexOf_4cfef 21 = .ok (.istore_n 3, 1) := by decide +kernel
theorem dJ1_indexOf_4cfef_22 : decode cJ1_indexOf_4cfef 22 = .ok (.iload_n 2, 1) := by decide +kernel
theorem dJ1_indexOf_4cfef_23 : decode cJ1_indexOf_4cfef 23 = .ok (.iload_n 3, 1) := by decide +kernel
theorem dJ1_indexOf_4cfef_24 : decode cJ1_indexOf_4cfef 24 = .ok (.if_icmp .lt 5, 3) := by decide +kernel
theorem dJ1_indexOf_4cfef_27 : decode cJ1_indexOf_4cfef 27 = .ok (.iconst (-1), 1) := by decide +kernel
theorem dJ1_indexOf_4cfef_28 : decode cJ1_indexOf_4cfef 28 = .ok (.ireturn, 1) := by decide +kernel
theorem dJ1_indexOf_4cfef_29 : decode cJ1_indexOf_4cfef 29 = .ok (.aload_n 0, 1) := by decide +kernel
theorem dJ1_indexOf_4cfef_30 : decode cJ1_indexOf_4cfef 30 = .ok (.iload_n 1, 1) := by decide +kernel
theorem dJ1_indexOf_4cfef_31 : decode cJ1_indexOf_4cfef 31 = .ok (.iload_n 2, 1) := by decide +kernel
theorem dJ1_indexOf_4cfef_32 : decode cJ1_indexOf_4cfef 32 = .ok (.iload_n 3, 1) := by decide +kernel
theorem dJ1_indexOf_4cfef_33 : decode cJ1_indexOf_4cfef 33 = .ok (.invokestatic 95, 3) := by decide +kernel
theorem dJ1_indexOf_4cfef_36 : decode cJ1_indexOf_4cfef 36 = .ok (.ireturn, 1) := by decide +kernel
theorem dJ1_indexOfChar_4cfef_0 : decode cJ1_indexOfChar_4cfef 0 = .ok (.iload_n 1, 1) := by decide +kernel
theorem dJ1_indexOfChar_4cfef_1 : decode cJ1_indexOfChar_4cfef 1 = .ok (.i2b, 1) := by decide +kernel
theorem dJ1_indexOfChar_4cfef_2 : decode cJ1_indexOfChar_4cfef 2 = .ok (.istore 4, 2) := by decide +kernel
theorem dJ1_indexOfChar_4cfef_4 : decode cJ1_indexOfChar_4cfef 4 = .ok (.iload_n 2, 1) := by decide +kernel
theorem dJ1_indexOfChar_4cfef_5 : decode cJ1_indexOfChar_4cfef 5 = .ok (.istore 5, 2) := by decide +kernel
theorem dJ1_indexOfChar_4cfef_7 : decode cJ1_indexOfChar_4cfef 7 = .ok (.iload 5, 2) := by decide +kernel
theorem dJ1_indexOfChar_4cfef_9 : decode cJ1_indexOfChar_4cfef 9 = .ok (.iload_n 3, 1) := by decide +kernel
theorem dJ1_indexOfChar_4cfef_10 : decode cJ1_indexOfChar_4cfef 10 = .ok (.if_icmp .ge 21, 3) := by decide +kernel
theorem dJ1_indexOfChar_4cfef_13 : decode cJ1_indexOfChar_4cfef 13 = .ok (.aload_n 0, 1) := by decide +kernel
theorem dJ1_indexOfChar_4cfef_14 : decode cJ1_indexOfChar_4cfef 14 = .ok (.iload 5, 2) := by decide +kernel
theorem dJ1_indexOfChar_4cfef_16 : decode cJ1_indexOfChar_4cfef 16 = .ok (.baload, 1) := by decide +kernel
theorem dJ1_indexOfChar_4cfef_17 : decode cJ1_indexOfChar_4cfef 17 = .ok (.iload 4, 2) := by decide +kernel
theorem dJ1_indexOfChar_4cfef_19 : decode cJ1_indexOfChar_4cfef 19 = .ok (.if_icmp .ne 6, 3) := by decide +kernel
theorem dJ1_indexOfChar_4cfef_22 : decode cJ1_indexOfChar_4cfef 22 = .ok (.iload 5, 2) := by decide +kernel
theorem dJ1_indexOfChar_4cfef_24 : decode cJ1_indexOfChar_4cfef 24 = .ok (.ireturn, 1) := by decide +kernel
theorem dJ1_indexOfChar_4cfef_25 : decode cJ1_indexOfChar_4cfef 25 = .ok (.iinc 5 1, 3) := by decide +kernel
theorem dJ1_indexOfChar_4cfef_28 : decode cJ1_indexOfChar_4cfef 28 = .ok (.goto (-21), 3) := by decide +kernel
theorem dJ1_indexOfChar_4cfef_31 : decode cJ1_indexOfChar_4cfef 31 = .ok (.iconst (-1), 1) := by decide +kernel
theorem dJ1_indexOfChar_4cfef_32 : decode cJ1_indexOfChar_4cfef 32 = .ok (.ireturn, 1) := by decide +kernel
theorem Mt.ofF {Y : mbY} {d : Nat} {as : List gV} {sh shE : mbSh} {ct : mbCt} {Po : Option gV → mbCt → Prop} (hp : plainFor Y.1 = true) (hl : (eL as).length ≤ Y.2.2.1) (k : G (mkK Y d sh shE Po) 0 (eLn as Y.2.2.1) [] sh ct) : Mt Y d as sh shE ct Po := by
  intro l E
  refine va_MetF (cc := Y.2.1) (maxL := Y.2.2.1) (ret := Y.2.2.2) hp rfl ?_
  intro p e s m args below meth c s₁ B hml hv
  obtain ⟨rfl, hH, hI⟩ := hv
  have hts := atoms_spec (ws := mbWs Y) B.pre
  have hn := name_of_methodNamed B.named B.method
  rw [lg_entry_eq]
  have he := lv_entry (as.map (tv E)) (n := Y.2.2.1) (by rw [← eL_len E as]; exact hl)
  have hh := k p l e s m _ below meth c E ⟨B.exec, B.bytes, hml, B.returns, B.notSynchronized, hn.1, findClass_of_methodNamed B.named, fun w hw => hts w (List.mem_cons_of_mem _ hw), hI, trivial⟩ s.heap [] _ ⟨hH, fun _ _ => rfl, fun _ h => (by cases h), ⟨he.1, he.2.1, ?_⟩, Nat.le_refl _, Nat.le_refl _⟩
  · have e1 : (mkK Y d sh shE Po).2.2.1 = sh := rfl
    rw [e1, Nat.sub_self, Nat.sub_self] at hh
    exact hh
  · intro i v hi
    unfold eLn at hi
    by_cases hlt : i < (eL as).length
    · rw [List.getElem?_append_left hlt] at hi
      have := eL_at E as i v hi
      rw [List.getElem?_toArray, List.getElem?_append_left (by rw [← eL_len E as]; exact hlt)]
      exact this
    · rw [List.getElem?_append_right (by omega)] at hi
      have := List.mem_of_getElem? hi
      have := (List.mem_replicate.mp this).2
      cases this
theorem rv_s (E : mbE) (i : Nat) : rvE E (-2 - (i : Int)) = .ref (E.2.2.2 i) := by
  unfold rvE
  rw [if_neg (by omega), if_neg (by omega), show (-(-2 - (i : Int)) - 2).toNat = i by omega]
theorem rv_b (E : mbE) (i : Nat) : rvE E (-12 - (i : Int)) = .ref (E.2.2.2 (10 + i)) := by
  unfold rvE
  rw [if_neg (by omega), if_neg (by omega), show (-(-12 - (i : Int)) - 2).toNat = 10 + i by omega]
/-- the signs of a text -/
def strB (i j : Nat) : Int := ((mbByt.getD i []).getD j 0).toInt
def strN (i : Nat) : Nat := mbLen.getD i 0
theorem strB_in {i j : Nat} (hi : i < 3) (hj : j < strN i) : 32 ≤ strB i j ∧ strB i j < 128 := by
  have h0 : ∀ j : Fin 93, 32 ≤ strB 0 j.val ∧ strB 0 j.val < 128 := by decide +kernel
  have h1 : ∀ j : Fin 92, 32 ≤ strB 1 j.val ∧ strB 1 j.val < 128 := by decide +kernel
  have h2 : ∀ j : Fin 12, 32 ≤ strB 2 j.val ∧ strB 2 j.val < 128 := by decide +kernel
  rcases (show i = 0 ∨ i = 1 ∨ i = 2 by omega) with rfl | rfl | rfl
  · exact h0 ⟨j, hj⟩
  · exact h1 ⟨j, hj⟩
  · exact h2 ⟨j, hj⟩
theorem strN_in (i : Nat) : strN i ≤ 93 := by
  rcases (show i = 0 ∨ i = 1 ∨ i = 2 ∨ 3 ≤ i by omega) with rfl | rfl | rfl | h
  · decide
  · decide
  · decide
  · unfold strN
    rw [List.getD_eq_getElem?_getD, List.getElem?_eq_none (by show 3 ≤ i; exact h)]
    decide
section MBstr
variable {K : mbK} {pc q : Nat} {ls : List (Option gV)} {st : List gV} {sh : mbSh} {ct : mbCt}
theorem g_i2c {x : Int} (h0 : 0 ≤ x) (h1 : x < 65536) (hd : decode K.1.2.1 pc = .ok (.i2c, 1)) (hq : pc + 1 = q) (k : G K q ls (.inl x :: st) sh ct) : G K pc ls (.inl x :: st) sh ct := by
  subst hq
  intro p l e s m args below meth c E C H locs lsv R
  have h := k p l e s m args below meth c E C H locs lsv R
  have ht : (Int32.ofInt x).toInt = x := by rw [mb_ti, w32_id (by omega) (by omega)]
  exact lv_i2c C.1 C.2.1 hd (by rw [lg_i2c_nf, lg_i2c_small (by rw [ht]; exact h0) (by rw [ht]; exact h1)]) h
theorem g_ldcS {tx : String} {idx i : Nat} (hz : ∀ (E : mbE) (U : State) (H : Heap), mbX E U H → vk_R K.1.1.cls idx tx (E.2.2.2 i) U) (hd : decode K.1.2.1 pc = .ok (.ldc idx, 2)) (hq : pc + 2 = q) (k : G K q ls (.inr (.inr (-2 - (i : Int))) :: st) sh ct) : G K pc ls st sh ct := by
  subst hq
  intro p l e s m args below meth c E C0 H locs lsv R
  have h := k p l e s m args below meth c E C0 H locs lsv R
  have e2 : ((.inr (.inr (-2 - (i : Int))) :: st : List gV).map (tv E)) = .ref (E.2.2.2 i) :: st.map (tv E) := by
    rw [List.map_cons]
    show rvE E _ :: _ = _
    rw [rv_s]
  rw [e2] at h
  exact va_ldcS C0.1 C0.2.1 C0.own (hz E s s.heap C0.si.2.2) hd h
theorem g_getV {i idx : Nat} (hi : i < 3) (hl : Cond.fieldLink K.1.1.cls idx "java/lang/String" "value" "[B" ∈ mbTB) (hd : decode K.1.2.1 pc = .ok (.getfield idx, 3)) (hq : pc + 3 = q) (k : G K q ls (.inr (.inr (-12 - (i : Int))) :: st) sh ct) : G K pc ls (.inr (.inr (-2 - (i : Int))) :: st) sh ct := by
  subst hq
  intro p l e s m args below meth c E C0 H locs lsv R
  have h := k p l e s m args below meth c E C0 H locs lsv R
  obtain ⟨cf, kf, fi, f, cell, h1, h2, h3, h4, h5, h6⟩ := (C0.si.2.2.1.1 i hi).2.2.1
  have e2 : ((.inr (.inr (-12 - (i : Int))) :: st : List gV).map (tv E)) = .ref (E.2.2.2 (10 + i)) :: st.map (tv E) := by
    rw [List.map_cons]
    show rvE E _ :: _ = _
    rw [rv_b]
  have e3 : ((.inr (.inr (-2 - (i : Int))) :: st : List gV).map (tv E)) = .ref (E.2.2.2 i) :: st.map (tv E) := by
    rw [List.map_cons]
    show rvE E _ :: _ = _
    rw [rv_s]
  rw [e2] at h
  rw [e3]
  exact W.getf C0.1 C0.2.1 C0.own (C0.tb _ hl) h1 h2 (by rw [R.2.1 _ (Nat.lt_of_not_le h6)]; exact h3) h4 h5 rfl rfl hd h
theorem g_getC {i idx : Nat} (hi : i < 3) (hl : Cond.fieldLink K.1.1.cls idx "java/lang/String" "coder" "B" ∈ mbTB) (hd : decode K.1.2.1 pc = .ok (.getfield idx, 3)) (hq : pc + 3 = q) (k : G K q ls (.inl 0 :: st) sh ct) : G K pc ls (.inr (.inr (-2 - (i : Int))) :: st) sh ct := by
  subst hq
  intro p l e s m args below meth c E C0 H locs lsv R
  have h := k p l e s m args below meth c E C0 H locs lsv R
  obtain ⟨cf, kf, fi, f, cell, h1, h2, h3, h4, h5, h6⟩ := (C0.si.2.2.1.1 i hi).2.1
  have e3 : ((.inr (.inr (-2 - (i : Int))) :: st : List gV).map (tv E)) = .ref (E.2.2.2 i) :: st.map (tv E) := by
    rw [List.map_cons]
    show rvE E _ :: _ = _
    rw [rv_s]
  rw [e3]
  exact W.getf C0.1 C0.2.1 C0.own (C0.tb _ hl) h1 h2 (by rw [R.2.1 _ (Nat.lt_of_not_le h6)]; exact h3) h4 h5 rfl rfl hd h
theorem g_getsC {idx : Nat} (hl : Cond.fieldLink K.1.1.cls idx "java/lang/String" "COMPACT_STRINGS" "Z" ∈ mbTB) (hd : decode K.1.2.1 pc = .ok (.getstatic idx, 3)) (hq : pc + 3 = q) (k : G K q ls (.inl 1 :: st) sh ct) : G K pc ls st sh ct := by
  subst hq
  intro p l e s m args below meth c E C0 H locs lsv R
  obtain ⟨cf, kf, fi, f, a, cell, h1, h2, h3, h4, h5, h6, h7, h8⟩ := C0.si.2.2.2.2.2.1.2.2.1
  exact W.gets C0.1 C0.2.1 C0.own (C0.tb _ hl) h1 h2 h3 h4 (by rw [R.2.1 a (Nat.lt_of_not_le h8)]; exact h5) (fun e => by rw [e] at h6; cases h6) h7 rfl hd (k p l e s m args below meth c E C0 H locs lsv R)
theorem g_getsF {idx : Nat} (hl : Cond.fieldLink K.1.1.cls idx "jdk/internal/util/Preconditions" "SIOOBE_FORMATTER" "Ljava/util/function/BiFunction;" ∈ mbTB) (hd : decode K.1.2.1 pc = .ok (.getstatic idx, 3)) (hq : pc + 3 = q) (k : ∀ z : Int, G K q ls (.inr (.inr z) :: st) sh ct) : G K pc ls st sh ct := by
  subst hq
  intro p l e s m args below meth c E C0 H locs lsv R
  rcases C0.si.2.2.2.2.2.1.2.2.2 with h | h
  · obtain ⟨cf, kf, fi, f, a, cell, h1, h2, h3, h4, h5, h6, h7, h8⟩ := h
    have hk := k (-1) p l e s m args below meth c E C0 H locs lsv R
    have e2 : ((.inr (.inr (-1)) :: st : List gV).map (tv E)) = .null :: st.map (tv E) := by
      rw [List.map_cons]
      rfl
    rw [e2] at hk
    exact W.gets C0.1 C0.2.1 C0.own (C0.tb _ hl) h1 h2 h3 h4 (by rw [R.2.1 a (Nat.lt_of_not_le h8)]; exact h5) (fun e => by rw [e] at h6; cases h6) h7 rfl hd hk
  · obtain ⟨cf, kf, fi, f, a, cell, h1, h2, h3, h4, h5, h6, h7, h8⟩ := h
    have hk := k (-8) p l e s m args below meth c E C0 H locs lsv R
    have e2 : ((.inr (.inr (-8)) :: st : List gV).map (tv E)) = .ref (E.2.2.2 6) :: st.map (tv E) := by
      rw [List.map_cons]
      rfl
    rw [e2] at hk
    exact W.gets C0.1 C0.2.1 C0.own (C0.tb _ hl) h1 h2 h3 h4 (by rw [R.2.1 a (Nat.lt_of_not_le h8)]; exact h5) (fun e => by rw [e] at h6; cases h6) h7 rfl hd hk
theorem g_alenS {i : Nat} (hi : i < 3) (hd : decode K.1.2.1 pc = .ok (.arraylength, 1)) (hq : pc + 1 = q) (k : G K q ls (.inl (strN i : Nat) :: st) sh ct) : G K pc ls (.inr (.inr (-12 - (i : Int))) :: st) sh ct := by
  subst hq
  intro p l e s m args below meth c E C0 H locs lsv R
  have h := k p l e s m args below meth c E C0 H locs lsv R
  obtain ⟨cell, g1, g2, g3, g4, g5, g6, g7⟩ := (C0.si.2.2.1.1 i hi).2.2.2
  have e3 : ((.inr (.inr (-12 - (i : Int))) :: st : List gV).map (tv E)) = .ref (E.2.2.2 (10 + i)) :: st.map (tv E) := by
    rw [List.map_cons]
    show rvE E _ :: _ = _
    rw [rv_b]
  rw [e3]
  exact W.alen (n := Int32.ofInt (strN i : Nat)) C0.1 C0.2.1 (by rw [R.2.1 _ (Nat.lt_of_not_le g7)]; exact g1) g2 (by rw [g5, Int32.ofInt_eq_ofNat] <;> rfl) rfl rfl hd h
theorem g_baldS {i : Nat} {x : Int} (hi : i < 3) (h0 : 0 ≤ x) (h1 : x < strN i) (hd : decode K.1.2.1 pc = .ok (.baload, 1)) (hq : pc + 1 = q) (k : G K q ls (.inl (strB i x.toNat) :: st) sh ct) : G K pc ls (.inl x :: .inr (.inr (-12 - (i : Int))) :: st) sh ct := by
  subst hq
  intro p l e s m args below meth c E C0 H locs lsv R
  have h := k p l e s m args below meth c E C0 H locs lsv R
  obtain ⟨cell, g1, g2, g3, g4, g5, g6, g7⟩ := (C0.si.2.2.1.1 i hi).2.2.2
  have hN := strN_in i
  have hw : w32 x = x := w32_id (by omega) (by omega)
  obtain ⟨hin, hcl⟩ := mb_in (i := x) (n := strN i) (by rw [hw]; exact h0) (by rw [hw]; exact h1)
  rw [hw] at hcl
  have e3 : ((.inl x :: .inr (.inr (-12 - (i : Int))) :: st : List gV).map (tv E)) = .int (Int32.ofInt x) :: .ref (E.2.2.2 (10 + i)) :: st.map (tv E) := by
    rw [List.map_cons, List.map_cons]
    show _ :: rvE E _ :: _ = _
    rw [rv_b]
    rfl
  rw [e3]
  have g4' : strN i ≤ cell.slots.size := g4
  have hin' : ¬ (Int32.ofInt x < 0 ∨ cell.slots.size ≤ (Int32.ofInt x).toNatClampNeg) := by
    rintro (q | q)
    · exact hin (Or.inl q)
    · exact hin (Or.inr (by omega))
  have hv : cell.slots[(Int32.ofInt x).toNatClampNeg]? = some (.int (Int32.ofInt (strB i x.toNat))) := by
    rw [hcl, g6 _ (by show x.toNat < strN i; omega)]
    unfold strB
    rw [Int32.ofInt_toInt]
  exact W.bald C0.1 C0.2.1 (by rw [R.2.1 _ (Nat.lt_of_not_le g7)]; exact g1) g2 g3 hin' hv rfl rfl hd h
theorem g_callT {Y : mbY} {n d idx i : Nat} {as stk : List gV} {sh1 : mbSh} {Po : Option gV → mbCt → Prop} (hi : i < 3) (hl : Cond.methodLink K.1.1.cls idx Y.1 ∈ mbTB) (hm : mtOk Y n) (hin : insOk Y) (hY : Y.1.cls = "java/lang/String") (hn : as.length = n) (hM : Mt Y d (.inr (.inr (-2 - (i : Int))) :: as) sh sh1 ct Po) (hsh : shLe sh sh1) (hR : rmOk K d sh1) (hst : (st.map gcat).sum ≤ 8) (hd : decode K.1.2.1 pc = .ok (.invokevirtual idx, 3)) (hstk : stk = as.reverse ++ .inr (.inr (-2 - (i : Int))) :: st) (hq : pc + 3 = q) (k : ∀ r ct1, Po r ct1 → G K q ls (r.toList ++ st) sh1 ct1) : G K pc ls stk sh ct := by
  subst hq; subst hstk
  intro p l e s m args below meth c E C H locs lsv R
  obtain ⟨hRR, hc, hsl⟩ := mb_room R hm hsh hR
  have e1 : (as.reverse ++ .inr (.inr (-2 - (i : Int))) :: st).map (tv E) = (as.map (tv E)).reverse ++ .ref (E.2.2.2 i) :: st.map (tv E) := by
    rw [List.map_append, List.map_cons, List.map_reverse]
    show _ ++ rvE E _ :: _ = _
    rw [rv_s]
  rw [e1]
  have hMt := hM l E
  have e2 : ((.inr (.inr (-2 - (i : Int))) :: as : List gV).map (tv E)) = .ref (E.2.2.2 i) :: as.map (tv E) := by
    rw [List.map_cons]
    show rvE E _ :: _ = _
    rw [rv_s]
  rw [e2] at hMt
  obtain ⟨cell, h1, h2, h3, h4⟩ := (C.si.2.2.1.1 i hi).1
  have hrc : ∃ cell : Cell, H[E.2.2.2 i]? = some cell ∧ cell.vm.isStatics = false ∧ s.vm.findClass Y.1.cls = some cell.cls := ⟨cell, by rw [R.2.1 _ (Nat.lt_of_not_le h4)]; exact h1, h2, by rw [hY]; exact h3⟩
  exact mb_callend C R hsh k (va_runV (As := as.map (tv E)) (C := Y.1.cls) ⟨C.1, C.2.1, C.2.2.1, C.own, C.tb⟩ hMt ⟨callB_of n C.tb (mb_good hm) rfl rfl rfl (C.tb _ hm.2.1) (C.tb _ hl) hm.2.2.1 hRR, C.tb _ hin.1, C.tb _ hin.2⟩ ⟨mb_blind, hrc, mb_pre R C.si _⟩ rfl (by rw [List.length_map]; exact hn) R.2.2.2.1.1 rfl (lv_room (by rw [mb_cats]; exact hst)) hd ⟨hc, hsl⟩)
end MBstr
theorem kJ0_38 : Cond.fieldLink RJ0 38 "java/lang/String" "COMPACT_STRINGS" "Z" ∈ mbTB := mb_tb 527 (by decide +kernel) rfl
theorem kJ0_1053 : Cond.fieldLink RJ0 1053 "jdk/internal/util/Preconditions" "SIOOBE_FORMATTER" "Ljava/util/function/BiFunction;" ∈ mbTB := mb_tb 543 (by decide +kernel) rfl
theorem kJ0_9 : Cond.fieldLink RJ0 9 "java/lang/String" "value" "[B" ∈ mbTB := mb_tb 1984 (by decide +kernel) rfl
theorem kJ0_15 : Cond.fieldLink RJ0 15 "java/lang/String" "coder" "B" ∈ mbTB := mb_tb 1985 (by decide +kernel) rfl
theorem nar_c {x : Int} (h0 : 0 ≤ x) (h1 : x < 128) : narrow .char (.int (Int32.ofInt x)) = .int (Int32.ofInt x) := by
  have h : ∀ x : Fin 128, narrow .char (.int (Int32.ofInt (x.val : Int))) = .int (Int32.ofInt (x.val : Int)) := by decide +kernel
  have := h ⟨x.toNat, by omega⟩
  have e : ((x.toNat : Nat) : Int) = x := by omega
  simp only [e] at this
  exact this
section
variable (d : Nat) (sh : mbSh) (ct : mbCt) {i : Nat} {x : Int}
theorem j_isLatin1 (hi : i < 3) : Mt YJ0_isLatin1_aae02 d [.inr (.inr (-2 - (i : Int)))] sh sh ct (pI fun r c => r = 1 ∧ c = ct) := by
  refine Mt.ofF (by decide +kernel) (Nat.le_of_ble_eq_true rfl) ?_
  show G _ 0 [some (.inr (.inr (-2 - (i : Int))))] [] sh ct
  refine g_getsC (q := 3) kJ0_38 dJ0_isLatin1_aae02_0 rfl ?_
  refine g_if_eq (q := 6) (tg := 17) dJ0_isLatin1_aae02_3 (by decide) rfl (fun c_3 => ?_) (fun c_3 => ?_)
  · exact absurd c_3 (by decide)
  · refine g_aload_n (q := 7) dJ0_isLatin1_aae02_6 rfl rfl ?_
    refine g_getC (q := 10) hi kJ0_15 dJ0_isLatin1_aae02_7 rfl ?_
    refine g_if_ne (q := 13) (tg := 17) dJ0_isLatin1_aae02_10 (by decide) rfl (fun c_10 => ?_) (fun c_10 => ?_)
    · exact absurd rfl c_10
    · refine g_iconst (q := 14) dJ0_isLatin1_aae02_13 rfl ?_
      refine g_goto (q := 18) dJ0_isLatin1_aae02_14 (by decide) ?_
      refine g_zreturn dJ0_isLatin1_aae02_18 rfl (by decide +kernel) ?_
      exact ⟨_, rfl, rfl, rfl⟩
theorem j_coder (hi : i < 3) : Mt YJ0_coder_7d493 d [.inr (.inr (-2 - (i : Int)))] sh sh ct (pI fun r c => r = 0 ∧ c = ct) := by
  refine Mt.ofF (by decide +kernel) (Nat.le_of_ble_eq_true rfl) ?_
  show G _ 0 [some (.inr (.inr (-2 - (i : Int))))] [] sh ct
  refine g_getsC (q := 3) kJ0_38 dJ0_coder_7d493_0 rfl ?_
  refine g_if_eq (q := 6) (tg := 13) dJ0_coder_7d493_3 (by decide) rfl (fun c_3 => ?_) (fun c_3 => ?_)
  · exact absurd c_3 (by decide)
  · refine g_aload_n (q := 7) dJ0_coder_7d493_6 rfl rfl ?_
    refine g_getC (q := 10) hi kJ0_15 dJ0_coder_7d493_7 rfl ?_
    refine g_goto (q := 14) dJ0_coder_7d493_10 (by decide) ?_
    refine g_zreturn dJ0_coder_7d493_14 rfl (by decide +kernel) ?_
    exact ⟨_, rfl, rfl, rfl⟩
theorem j_length (hi : i < 3) : Mt YJ0_length_8abf5 (d + 1) [.inr (.inr (-2 - (i : Int)))] sh sh ct (pI fun r c => r = (strN i : Nat) ∧ c = ct) := by
  have hN := strN_in i
  refine Mt.ofF (by decide +kernel) (Nat.le_of_ble_eq_true rfl) ?_
  show G _ 0 [some (.inr (.inr (-2 - (i : Int))))] [] sh ct
  refine g_aload_n (q := 1) dJ0_length_8abf5_0 rfl rfl ?_
  refine g_getV (q := 4) hi kJ0_9 dJ0_length_8abf5_1 rfl ?_
  refine g_alenS (q := 5) hi dJ0_length_8abf5_4 rfl ?_
  refine g_aload_n (q := 6) dJ0_length_8abf5_5 rfl rfl ?_
  refine g_callT (q := 9) hi lJ0_335 mJ0_coder_7d493 nJ0_coder_7d493 rfl rfl (j_coder d sh ct hi) shLe.rf (rmOk.mk (by omega) shLe.rf) (Nat.le_of_ble_eq_true rfl) dJ0_length_8abf5_6 rfl rfl (kI fun r c hp => ?_)
  obtain ⟨rfl, rfl⟩ := hp
  refine g_ishr (q := 10) dJ0_length_8abf5_9 rfl ?_
  refine g_ireturn dJ0_length_8abf5_10 rfl ?_
  refine ⟨_, rfl, ?_, rfl⟩
  unfold shrI
  rw [w32_id (by omega) (by omega), show (2 : Int) ^ ((0 : Int) % 32).toNat = 1 from rfl, Int.ediv_one]
theorem j_check3 {n z : Int} (h0 : 0 ≤ x) (h1 : x < n) (h2 : n < 2147483648) : Mt YJ3_checkIndex_8e157 d [.inl x, .inl n, .inr (.inr z)] sh sh ct (pI fun r c => r = x ∧ c = ct) := by
  refine Mt.ofF (by decide +kernel) (Nat.le_of_ble_eq_true rfl) ?_
  show G _ 0 [some (.inl x), some (.inl n), some (.inr (.inr z))] [] sh ct
  refine g_iload_n (q := 1) dJ3_checkIndex_8e157_0 rfl rfl ?_
  refine g_if_lt (q := 4) (tg := 9) dJ3_checkIndex_8e157_1 (by decide) rfl (fun c_1 => ?_) (fun c_1 => ?_)
  · exact absurd c_1 (by rw [w32_id (by omega) (by omega)]; omega)
  · refine g_iload_n (q := 5) dJ3_checkIndex_8e157_4 rfl rfl ?_
    refine g_iload_n (q := 6) dJ3_checkIndex_8e157_5 rfl rfl ?_
    refine g_icmp_lt (q := 9) (tg := 16) dJ3_checkIndex_8e157_6 (by decide) rfl (fun c_6 => ?_) (fun c_6 => ?_)
    · refine g_iload_n (q := 17) dJ3_checkIndex_8e157_16 rfl rfl ?_
      refine g_ireturn dJ3_checkIndex_8e157_17 rfl ?_
      exact ⟨_, rfl, rfl, rfl⟩
    · exact absurd c_6 (by rw [w32_id (x := x) (by omega) (by omega), w32_id (x := n) (by omega) (by omega)]; omega)
theorem j_check0 {n : Int} (h0 : 0 ≤ x) (h1 : x < n) (h2 : n < 2147483648) : Mt YJ0_checkIndex_df160 (d + 1) [.inl x, .inl n] sh sh ct (pN fun c => c = ct) := by
  refine Mt.ofF (by decide +kernel) (Nat.le_of_ble_eq_true rfl) ?_
  show G _ 0 [some (.inl x), some (.inl n)] [] sh ct
  refine g_iload_n (q := 1) dJ0_checkIndex_df160_0 rfl rfl ?_
  refine g_iload_n (q := 2) dJ0_checkIndex_df160_1 rfl rfl ?_
  refine g_getsF (q := 5) kJ0_1053 dJ0_checkIndex_df160_2 rfl (fun z => ?_)
  refine g_callS (q := 8) lJ0_1059 mJ3_checkIndex_8e157 sJ3_checkIndex_8e157 rfl (j_check3 d sh _ h0 h1 h2) shLe.rf (rmOk.mk (by omega) (by first | exact shLe.rf | assumption)) (Nat.le_of_ble_eq_true rfl) dJ0_checkIndex_df160_5 rfl rfl (kI fun r_ c_ hp => ?_)
  obtain ⟨hr, hq⟩ := hp
  replace hr := hr.symm
  replace hq := hq.symm
  subst hr hq
  refine g_pop (q := 9) dJ0_checkIndex_df160_8 rfl rfl ?_
  refine g_return dJ0_checkIndex_df160_9 rfl ?_
  exact ⟨rfl, rfl⟩
theorem j_charAt1 (hi : i < 3) (h0 : 0 ≤ x) (h1 : x < strN i) : Mt YJ1_charAt_3b067 (d + 2) [.inr (.inr (-12 - (i : Int))), .inl x] sh sh ct (pI fun r c => r = strB i x.toNat ∧ c = ct) := by
  have hN := strN_in i
  have hb := strB_in (i := i) (j := x.toNat) hi (by omega)
  refine Mt.ofF (by decide +kernel) (Nat.le_of_ble_eq_true rfl) ?_
  show G _ 0 [some (.inr (.inr (-12 - (i : Int)))), some (.inl x)] [] sh ct
  refine g_iload_n (q := 1) dJ1_charAt_3b067_0 rfl rfl ?_
  refine g_aload_n (q := 2) dJ1_charAt_3b067_1 rfl rfl ?_
  refine g_alenS (q := 3) hi dJ1_charAt_3b067_2 rfl ?_
  refine g_callS (q := 6) lJ1_9 mJ0_checkIndex_df160 sJ0_checkIndex_df160 rfl (j_check0 d sh _ h0 h1 (by omega)) shLe.rf (rmOk.mk (by omega) (by first | exact shLe.rf | assumption)) (Nat.le_of_ble_eq_true rfl) dJ1_charAt_3b067_3 rfl rfl (kN fun c hp => ?_)
  subst hp
  refine g_aload_n (q := 7) dJ1_charAt_3b067_6 rfl rfl ?_
  refine g_iload_n (q := 8) dJ1_charAt_3b067_7 rfl rfl ?_
  refine g_baldS (q := 9) hi h0 h1 dJ1_charAt_3b067_8 rfl ?_
  refine g_sipush (q := 12) dJ1_charAt_3b067_9 (by decide +kernel) rfl ?_
  refine g_iand (q := 13) dJ1_charAt_3b067_12 rfl ?_
  rw [and255, Int.emod_eq_of_lt (by omega) (by omega)]
  refine g_i2c (q := 14) (by omega) (by omega) dJ1_charAt_3b067_13 rfl ?_
  refine g_zreturn dJ1_charAt_3b067_14 rfl (nar_c (by omega) (by omega)) ?_
  exact ⟨_, rfl, rfl, rfl⟩
theorem j_charAt (hi : i < 3) (h0 : 0 ≤ x) (h1 : x < strN i) : Mt YJ0_charAt_5068e (d + 3) [.inr (.inr (-2 - (i : Int))), .inl x] sh sh ct (pI fun r c => r = strB i x.toNat ∧ c = ct) := by
  have hb := strB_in (i := i) (j := x.toNat) hi (by omega)
  refine Mt.ofF (by decide +kernel) (Nat.le_of_ble_eq_true rfl) ?_
  show G _ 0 [some (.inr (.inr (-2 - (i : Int)))), some (.inl x)] [] sh ct
  refine g_aload_n (q := 1) dJ0_charAt_5068e_0 rfl rfl ?_
  refine g_callT (q := 4) hi lJ0_492 mJ0_isLatin1_aae02 nJ0_isLatin1_aae02 rfl rfl (j_isLatin1 (d + 2) sh ct hi) shLe.rf (rmOk.mk (by omega) shLe.rf) (Nat.le_of_ble_eq_true rfl) dJ0_charAt_5068e_1 rfl rfl (kI fun r c hp => ?_)
  obtain ⟨rfl, rfl⟩ := hp
  refine g_if_eq (q := 7) (tg := 16) dJ0_charAt_5068e_4 (by decide) rfl (fun c_4 => ?_) (fun c_4 => ?_)
  · exact absurd c_4 (by decide)
  · refine g_aload_n (q := 8) dJ0_charAt_5068e_7 rfl rfl ?_
    refine g_getV (q := 11) hi kJ0_9 dJ0_charAt_5068e_8 rfl ?_
    refine g_iload_n (q := 12) dJ0_charAt_5068e_11 rfl rfl ?_
    refine g_callS (q := 15) lJ0_495 mJ1_charAt_3b067 sJ1_charAt_3b067 rfl (j_charAt1 d sh _ hi h0 h1) shLe.rf (rmOk.mk (by omega) (by first | exact shLe.rf | assumption)) (Nat.le_of_ble_eq_true rfl) dJ0_charAt_5068e_12 rfl rfl (kI fun r_ c_ hp => ?_)
    obtain ⟨hr, hq⟩ := hp
    replace hr := hr.symm
    replace hq := hq.symm
    subst hr hq
    refine g_zreturn dJ0_charAt_5068e_15 rfl (nar_c (by omega) (by omega)) ?_
    exact ⟨_, rfl, rfl, rfl⟩
end
