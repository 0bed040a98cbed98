/-! the class's reader: words, digits -/
theorem dX6_endOfWord_0 : decode cX6_endOfWord 0 = .ok (.iload_n 1, 1) := by decide +kernel
theorem dX6_endOfWord_1 : decode cX6_endOfWord 1 = .ok (.istore_n 3, 1) := by decide +kernel
theorem dX6_endOfWord_2 : decode cX6_endOfWord 2 = .ok (.iload_n 3, 1) := by decide +kernel
theorem dX6_endOfWord_3 : decode cX6_endOfWord 3 = .ok (.iload_n 2, 1) := by decide +kernel
theorem dX6_endOfWord_4 : decode cX6_endOfWord 4 = .ok (.if_icmp .ge 21, 3) := by decide +kernel
theorem dX6_endOfWord_7 : decode cX6_endOfWord 7 = .ok (.aload_n 0, 1) := by decide +kernel
theorem dX6_endOfWord_8 : decode cX6_endOfWord 8 = .ok (.getfield 22, 3) := by decide +kernel
theorem dX6_endOfWord_11 : decode cX6_endOfWord 11 = .ok (.iload_n 3, 1) := by decide +kernel
theorem dX6_endOfWord_12 : decode cX6_endOfWord 12 = .ok (.baload, 1) := by decide +kernel
theorem dX6_endOfWord_13 : decode cX6_endOfWord 13 = .ok (.invokestatic 63, 3) := by decide +kernel
theorem dX6_endOfWord_16 : decode cX6_endOfWord 16 = .ok (.ifCond .eq 9, 3) := by decide +kernel
theorem dX6_endOfWord_19 : decode cX6_endOfWord 19 = .ok (.iinc 3 1, 3) := by decide +kernel
theorem dX6_endOfWord_22 : decode cX6_endOfWord 22 = .ok (.goto (-20), 3) := by decide +kernel
theorem dX6_endOfWord_25 : decode cX6_endOfWord 25 = .ok (.iload_n 3, 1) := by decide +kernel
theorem dX6_endOfWord_26 : decode cX6_endOfWord 26 = .ok (.ireturn, 1) := by decide +kernel
theorem dX6_endOfDigits_0 : decode cX6_endOfDigits 0 = .ok (.iload_n 1, 1) := by decide +kernel
theorem dX6_endOfDigits_1 : decode cX6_endOfDigits 1 = .ok (.istore_n 3, 1) := by decide +kernel
theorem dX6_endOfDigits_2 : decode cX6_endOfDigits 2 = .ok (.iload_n 3, 1) := by decide +kernel
theorem dX6_endOfDigits_3 : decode cX6_endOfDigits 3 = .ok (.iload_n 2, 1) := by decide +kernel
theorem dX6_endOfDigits_4 : decode cX6_endOfDigits 4 = .ok (.if_icmp .ge 21, 3) := by decide +kernel
theorem dX6_endOfDigits_7 : decode cX6_endOfDigits 7 = .ok (.aload_n 0, 1) := by decide +kernel
theorem dX6_endOfDigits_8 : decode cX6_endOfDigits 8 = .ok (.getfield 22, 3) := by decide +kernel
theorem dX6_endOfDigits_11 : decode cX6_endOfDigits 11 = .ok (.iload_n 3, 1) := by decide +kernel
theorem dX6_endOfDigits_12 : decode cX6_endOfDigits 12 = .ok (.baload, 1) := by decide +kernel
theorem dX6_endOfDigits_13 : decode cX6_endOfDigits 13 = .ok (.invokestatic 73, 3) := by decide +kernel
theorem dX6_endOfDigits_16 : decode cX6_endOfDigits 16 = .ok (.ifCond .eq 9, 3) := by decide +kernel
theorem dX6_endOfDigits_19 : decode cX6_endOfDigits 19 = .ok (.iinc 3 1, 3) := by decide +kernel
theorem dX6_endOfDigits_22 : decode cX6_endOfDigits 22 = .ok (.goto (-20), 3) := by decide +kernel
theorem dX6_endOfDigits_25 : decode cX6_endOfDigits 25 = .ok (.iload_n 3, 1) := by decide +kernel
theorem dX6_endOfDigits_26 : decode cX6_endOfDigits 26 = .ok (.ireturn, 1) := by decide +kernel
theorem dX6_kindOfDigits_0 : decode cX6_kindOfDigits 0 = .ok (.iload_n 2, 1) := by decide +kernel
theorem dX6_kindOfDigits_1 : decode cX6_kindOfDigits 1 = .ok (.iload_n 1, 1) := by decide +kernel
theorem dX6_kindOfDigits_2 : decode cX6_kindOfDigits 2 = .ok (.isub, 1) := by decide +kernel
theorem dX6_kindOfDigits_3 : decode cX6_kindOfDigits 3 = .ok (.iconst 3, 1) := by decide +kernel
theorem dX6_kindOfDigits_4 : decode cX6_kindOfDigits 4 = .ok (.if_icmp .le 7, 3) := by decide +kernel
theorem dX6_kindOfDigits_7 : decode cX6_kindOfDigits 7 = .ok (.sipush 202, 3) := by decide +kernel
theorem dX6_kindOfDigits_10 : decode cX6_kindOfDigits 10 = .ok (.ireturn, 1) := by decide +kernel
theorem dX6_kindOfDigits_11 : decode cX6_kindOfDigits 11 = .ok (.iconst 0, 1) := by decide +kernel
theorem dX6_kindOfDigits_12 : decode cX6_kindOfDigits 12 = .ok (.istore_n 3, 1) := by decide +kernel
theorem dX6_kindOfDigits_13 : decode cX6_kindOfDigits 13 = .ok (.iload_n 1, 1) := by decide +kernel
theorem dX6_kindOfDigits_14 : decode cX6_kindOfDigits 14 = .ok (.istore 4, 2) := by decide +kernel
theorem dX6_kindOfDigits_16 : decode cX6_kindOfDigits 16 = .ok (.iload 4, 2) := by decide +kernel
theorem dX6_kindOfDigits_18 : decode cX6_kindOfDigits 18 = .ok (.iload_n 2, 1) := by decide +kernel
theorem dX6_kindOfDigits_19 : decode cX6_kindOfDigits 19 = .ok (.if_icmp .ge 25, 3) := by decide +kernel
theorem dX6_kindOfDigits_22 : decode cX6_kindOfDigits 22 = .ok (.iload_n 3, 1) := by decide +kernel
theorem dX6_kindOfDigits_23 : decode cX6_kindOfDigits 23 = .ok (.bipush 10, 2) := by decide +kernel
theorem dX6_kindOfDigits_25 : decode cX6_kindOfDigits 25 = .ok (.imul, 1) := by decide +kernel
theorem dX6_kindOfDigits_26 : decode cX6_kindOfDigits 26 = .ok (.aload_n 0, 1) := by decide +kernel
theorem dX6_kindOfDigits_27 : decode cX6_kindOfDigits 27 = .ok (.getfield 22, 3) := by decide +kernel
theorem dX6_kindOfDigits_30 : decode cX6_kindOfDigits 30 = .ok (.iload 4, 2) := by decide +kernel
theorem dX6_kindOfDigits_32 : decode cX6_kindOfDigits 32 = .ok (.baload, 1) := by decide +kernel
theorem dX6_kindOfDigits_33 : decode cX6_kindOfDigits 33 = .ok (.iadd, 1) := by decide +kernel
theorem dX6_kindOfDigits_34 : decode cX6_kindOfDigits 34 = .ok (.bipush 48, 2) := by decide +kernel
theorem dX6_kindOfDigits_36 : decode cX6_kindOfDigits 36 = .ok (.isub, 1) := by decide +kernel
theorem dX6_kindOfDigits_37 : decode cX6_kindOfDigits 37 = .ok (.istore_n 3, 1) := by decide +kernel
theorem dX6_kindOfDigits_38 : decode cX6_kindOfDigits 38 = .ok (.iinc 4 1, 3) := by decide +kernel
theorem dX6_kindOfDigits_41 : decode cX6_kindOfDigits 41 = .ok (.goto (-25), 3) := by decide +kernel
theorem dX6_kindOfDigits_44 : decode cX6_kindOfDigits 44 = .ok (.sipush 1000, 3) := by decide +kernel
theorem dX6_kindOfDigits_47 : decode cX6_kindOfDigits 47 = .ok (.iload_n 3, 1) := by decide +kernel
theorem dX6_kindOfDigits_48 : decode cX6_kindOfDigits 48 = .ok (.iadd, 1) := by decide +kernel
theorem dX6_kindOfDigits_49 : decode cX6_kindOfDigits 49 = .ok (.ireturn, 1) := by decide +kernel
theorem dX6_isLetter_0 : decode cX6_isLetter 0 = .ok (.iload_n 0, 1) := by decide +kernel
theorem dX6_isLetter_1 : decode cX6_isLetter 1 = .ok (.bipush 97, 2) := by decide +kernel
theorem dX6_isLetter_3 : decode cX6_isLetter 3 = .ok (.if_icmp .lt 13, 3) := by decide +kernel
theorem dX6_isLetter_6 : decode cX6_isLetter 6 = .ok (.iload_n 0, 1) := by decide +kernel
theorem dX6_isLetter_7 : decode cX6_isLetter 7 = .ok (.bipush 122, 2) := by decide +kernel
theorem dX6_isLetter_9 : decode cX6_isLetter 9 = .ok (.if_icmp .gt 7, 3) := by decide +kernel
theorem dX6_isLetter_12 : decode cX6_isLetter 12 = .ok (.iconst 1, 1) := by decide +kernel
theorem dX6_isLetter_13 : decode cX6_isLetter 13 = .ok (.goto 4, 3) := by decide +kernel
theorem dX6_isLetter_16 : decode cX6_isLetter 16 = .ok (.iconst 0, 1) := by decide +kernel
theorem dX6_isLetter_17 : decode cX6_isLetter 17 = .ok (.ireturn, 1) := by decide +kernel
theorem dX6_isDigit_0 : decode cX6_isDigit 0 = .ok (.iload_n 0, 1) := by decide +kernel
theorem dX6_isDigit_1 : decode cX6_isDigit 1 = .ok (.bipush 48, 2) := by decide +kernel
theorem dX6_isDigit_3 : decode cX6_isDigit 3 = .ok (.if_icmp .lt 13, 3) := by decide +kernel
theorem dX6_isDigit_6 : decode cX6_isDigit 6 = .ok (.iload_n 0, 1) := by decide +kernel
theorem dX6_isDigit_7 : decode cX6_isDigit 7 = .ok (.bipush 57, 2) := by decide +kernel
theorem dX6_isDigit_9 : decode cX6_isDigit 9 = .ok (.if_icmp .gt 7, 3) := by decide +kernel
theorem dX6_isDigit_12 : decode cX6_isDigit 12 = .ok (.iconst 1, 1) := by decide +kernel
theorem dX6_isDigit_13 : decode cX6_isDigit 13 = .ok (.goto 4, 3) := by decide +kernel
theorem dX6_isDigit_16 : decode cX6_isDigit 16 = .ok (.iconst 0, 1) := by decide +kernel
theorem dX6_isDigit_17 : decode cX6_isDigit 17 = .ok (.ireturn, 1) := by decide +kernel
theorem dX6_isWord_0 : decode cX6_isWord 0 = .ok (.iload_n 2, 1) := by decide +kernel
theorem dX6_isWord_1 : decode cX6_isWord 1 = .ok (.istore 4, 2) := by decide +kernel
theorem dX6_isWord_3 : decode cX6_isWord 3 = .ok (.iload 4, 2) := by decide +kernel
theorem dX6_isWord_5 : decode cX6_isWord 5 = .ok (.iload_n 3, 1) := by decide +kernel
theorem dX6_isWord_6 : decode cX6_isWord 6 = .ok (.if_icmp .ge 32, 3) := by decide +kernel
theorem dX6_isWord_9 : decode cX6_isWord 9 = .ok (.aload_n 0, 1) := by decide +kernel
theorem dX6_isWord_10 : decode cX6_isWord 10 = .ok (.getfield 22, 3) := by decide +kernel
theorem dX6_isWord_13 : decode cX6_isWord 13 = .ok (.iload 4, 2) := by decide +kernel
theorem dX6_isWord_15 : decode cX6_isWord 15 = .ok (.baload, 1) := by decide +kernel
theorem dX6_isWord_16 : decode cX6_isWord 16 = .ok (.ldc 90, 2) := by decide +kernel
theorem dX6_isWord_18 : decode cX6_isWord 18 = .ok (.iload_n 1, 1) := by decide +kernel
theorem dX6_isWord_19 : decode cX6_isWord 19 = .ok (.iload 4, 2) := by decide +kernel
theorem dX6_isWord_21 : decode cX6_isWord 21 = .ok (.iadd, 1) := by decide +kernel
theorem dX6_isWord_22 : decode cX6_isWord 22 = .ok (.iload_n 2, 1) := by decide +kernel
theorem dX6_isWord_23 : decode cX6_isWord 23 = .ok (.isub, 1) := by decide +kernel
theorem dX6_isWord_24 : decode cX6_isWord 24 = .ok (.invokevirtual 96, 3) := by decide +kernel
theorem dX6_isWord_27 : decode cX6_isWord 27 = .ok (.if_icmp .eq 5, 3) := by decide +kernel
theorem dX6_isWord_30 : decode cX6_isWord 30 = .ok (.iconst 0, 1) := by decide +kernel
theorem dX6_isWord_31 : decode cX6_isWord 31 = .ok (.ireturn, 1) := by decide +kernel
theorem dX6_isWord_32 : decode cX6_isWord 32 = .ok (.iinc 4 1, 3) := by decide +kernel
theorem dX6_isWord_35 : decode cX6_isWord 35 = .ok (.goto (-32), 3) := by decide +kernel
theorem dX6_isWord_38 : decode cX6_isWord 38 = .ok (.iconst 1, 1) := by decide +kernel
theorem dX6_isWord_39 : decode cX6_isWord 39 = .ok (.ireturn, 1) := by decide +kernel
theorem dX6_kindOfWord_0 : decode cX6_kindOfWord 0 = .ok (.iconst 0, 1) := by decide +kernel
theorem dX6_kindOfWord_1 : decode cX6_kindOfWord 1 = .ok (.istore_n 3, 1) := by decide +kernel
theorem dX6_kindOfWord_2 : decode cX6_kindOfWord 2 = .ok (.iconst 0, 1) := by decide +kernel
theorem dX6_kindOfWord_3 : decode cX6_kindOfWord 3 = .ok (.istore 4, 2) := by decide +kernel
theorem dX6_kindOfWord_5 : decode cX6_kindOfWord 5 = .ok (.iconst 0, 1) := by decide +kernel
theorem dX6_kindOfWord_6 : decode cX6_kindOfWord 6 = .ok (.istore 5, 2) := by decide +kernel
theorem dX6_kindOfWord_8 : decode cX6_kindOfWord 8 = .ok (.iload 5, 2) := by decide +kernel
theorem dX6_kindOfWord_10 : decode cX6_kindOfWord 10 = .ok (.ldc 90, 2) := by decide +kernel
theorem dX6_kindOfWord_12 : decode cX6_kindOfWord 12 = .ok (.invokevirtual 92, 3) := by decide +kernel
theorem dX6_kindOfWord_15 : decode cX6_kindOfWord 15 = .ok (.if_icmp .ge 58, 3) := by decide +kernel
theorem dX6_kindOfWord_18 : decode cX6_kindOfWord 18 = .ok (.ldc 90, 2) := by decide +kernel
theorem dX6_kindOfWord_20 : decode cX6_kindOfWord 20 = .ok (.iload 5, 2) := by decide +kernel
theorem dX6_kindOfWord_22 : decode cX6_kindOfWord 22 = .ok (.invokevirtual 96, 3) := by decide +kernel
theorem dX6_kindOfWord_25 : decode cX6_kindOfWord 25 = .ok (.bipush 32, 2) := by decide +kernel
theorem dX6_kindOfWord_27 : decode cX6_kindOfWord 27 = .ok (.if_icmp .ne 40, 3) := by decide +kernel
theorem dX6_kindOfWord_30 : decode cX6_kindOfWord 30 = .ok (.iload 5, 2) := by decide +kernel
theorem dX6_kindOfWord_32 : decode cX6_kindOfWord 32 = .ok (.iload 4, 2) := by decide +kernel
theorem dX6_kindOfWord_34 : decode cX6_kindOfWord 34 = .ok (.isub, 1) := by decide +kernel
theorem dX6_kindOfWord_35 : decode cX6_kindOfWord 35 = .ok (.iload_n 2, 1) := by decide +kernel
theorem dX6_kindOfWord_36 : decode cX6_kindOfWord 36 = .ok (.iload_n 1, 1) := by decide +kernel
theorem dX6_kindOfWord_37 : decode cX6_kindOfWord 37 = .ok (.isub, 1) := by decide +kernel
theorem dX6_kindOfWord_38 : decode cX6_kindOfWord 38 = .ok (.if_icmp .ne 20, 3) := by decide +kernel
theorem dX6_kindOfWord_41 : decode cX6_kindOfWord 41 = .ok (.aload_n 0, 1) := by decide +kernel
theorem dX6_kindOfWord_42 : decode cX6_kindOfWord 42 = .ok (.iload 4, 2) := by decide +kernel
theorem dX6_kindOfWord_44 : decode cX6_kindOfWord 44 = .ok (.iload_n 1, 1) := by decide +kernel
theorem dX6_kindOfWord_45 : decode cX6_kindOfWord 45 = .ok (.iload_n 2, 1) := by decide +kernel
theorem dX6_kindOfWord_46 : decode cX6_kindOfWord 46 = .ok (.invokevirtual 100, 3) := by decide +kernel
theorem dX6_kindOfWord_49 : decode cX6_kindOfWord 49 = .ok (.ifCond .eq 9, 3) := by decide +kernel
theorem dX6_kindOfWord_52 : decode cX6_kindOfWord 52 = .ok (.sipush 128, 3) := by decide +kernel
theorem dX6_kindOfWord_55 : decode cX6_kindOfWord 55 = .ok (.iload_n 3, 1) := by decide +kernel
theorem dX6_kindOfWord_56 : decode cX6_kindOfWord 56 = .ok (.iadd, 1) := by decide +kernel
theorem dX6_kindOfWord_57 : decode cX6_kindOfWord 57 = .ok (.ireturn, 1) := by decide +kernel
theorem dX6_kindOfWord_58 : decode cX6_kindOfWord 58 = .ok (.iinc 3 1, 3) := by decide +kernel
theorem dX6_kindOfWord_61 : decode cX6_kindOfWord 61 = .ok (.iload 5, 2) := by decide +kernel
theorem dX6_kindOfWord_63 : decode cX6_kindOfWord 63 = .ok (.iconst 1, 1) := by decide +kernel
theorem dX6_kindOfWord_64 : decode cX6_kindOfWord 64 = .ok (.iadd, 1) := by decide +kernel
theorem dX6_kindOfWord_65 : decode cX6_kindOfWord 65 = .ok (.istore 4, 2) := by decide +kernel
theorem dX6_kindOfWord_67 : decode cX6_kindOfWord 67 = .ok (.iinc 5 1, 3) := by decide +kernel
theorem dX6_kindOfWord_70 : decode cX6_kindOfWord 70 = .ok (.goto (-62), 3) := by decide +kernel
theorem dX6_kindOfWord_73 : decode cX6_kindOfWord 73 = .ok (.sipush 200, 3) := by decide +kernel
theorem dX6_kindOfWord_76 : decode cX6_kindOfWord 76 = .ok (.ireturn, 1) := by decide +kernel
abbrev isLt (x : Int) : Prop := 97 ≤ x ∧ x ≤ 122
abbrev isDg (x : Int) : Prop := 48 ≤ x ∧ x ≤ 57
abbrev isWs (x : Int) : Prop := x = 10 ∨ x = 32
/-- the run of signs of a sort from p on ends ahead of e -/
def runE (P : Int → Prop) (f : Int → Int) (n p e : Int) : Prop := (p ≤ e ∧ e ≤ n) ∧ (∀ j, p ≤ j → j < e → P (f j)) ∧ (e < n → ¬ P (f e))
theorem runE.uni {P : Int → Prop} {f : Int → Int} {n p e e2 : Int} (h : runE P f n p e) (h2 : runE P f n p e2) : e = e2 := by
  obtain ⟨a1, a2, a3⟩ := h
  obtain ⟨b1, b2, b3⟩ := h2
  rcases Int.lt_trichotomy e e2 with h | h | h
  · exact absurd (b2 e a1.1 h) (a3 (by omega))
  · exact h
  · exact absurd (a2 e2 b1.1 h) (b3 (by omega))
def numV (f : Int → Int) (p : Int) : Nat → Int
  | 0 => 0
  | m + 1 => numV f p m * 10 + f (p + m) - 48
def digK (f : Int → Int) (p e : Int) : Int := if 3 < e - p then 202 else 1000 + numV f p (e - p).toNat
/-- where the class's words begin; how long they are -/
def cSt : List Nat := [0, 5, 10, 15, 22, 27, 34, 37, 42, 47, 52, 58, 65, 72, 75, 79, 83, 88, 92]
def cLn : List Nat := [4, 4, 4, 6, 4, 6, 2, 4, 4, 4, 5, 6, 6, 2, 3, 3, 4, 3, 0]
def cS (w : Nat) : Nat := cSt.getD w 0
def cL (w : Nat) : Nat := cLn.getD w 0
def isW (f : Int → Int) (p e : Int) (w : Nat) : Prop := e - p = (cL w : Nat) ∧ ∀ j : Nat, j < cL w → f (p + j) = strB 1 (cS w + j)
def kindW (f : Int → Int) (p e k : Int) : Prop := (∃ w : Nat, w < 18 ∧ isW f p e w ∧ k = 128 + (w : Int)) ∨ ((∀ w : Nat, w < 18 → ¬ isW f p e w) ∧ k = 200)
theorem cW_ne : ∀ w v : Fin 18, w = v ∨ cL w.val ≠ cL v.val ∨ ∃ j : Fin 6, j.val < cL w.val ∧ strB 1 (cS w.val + j.val) ≠ strB 1 (cS v.val + j.val) := by decide +kernel
theorem isW.uni {f : Int → Int} {p e : Int} {w v : Nat} (hw : w < 18) (hv : v < 18) (h : isW f p e w) (h2 : isW f p e v) : w = v := by
  rcases cW_ne ⟨w, hw⟩ ⟨v, hv⟩ with h3 | h3 | ⟨j, h3, h4⟩
  · exact congrArg Fin.val h3
  · exact absurd (show cL w = cL v by have := h.1; have := h2.1; omega) h3
  · have e1 := h.2 j.val h3
    have : cL v = cL w := by have := h.1; have := h2.1; omega
    have e2 := h2.2 j.val (by rw [this]; exact h3)
    exact absurd (e1.symm.trans e2) h4
theorem kindW.uni {f : Int → Int} {p e k k2 : Int} (h : kindW f p e k) (h2 : kindW f p e k2) : k = k2 := by
  rcases h with ⟨w, a1, a2, a3⟩ | ⟨a1, a2⟩
  · rcases h2 with ⟨v, b1, b2, b3⟩ | ⟨b1, b2⟩
    · rw [a3, b3, isW.uni a1 b1 a2 b2]
    · exact absurd a2 (b1 w a1)
  · rcases h2 with ⟨v, b1, b2, b3⟩ | ⟨b1, b2⟩
    · exact absurd b2 (a1 v b1)
    · rw [a2, b2]
theorem kindW.in {f : Int → Int} {p e k : Int} (h : kindW f p e k) : 128 ≤ k ∧ k ≤ 200 := by
  rcases h with ⟨w, a1, a2, a3⟩ | ⟨a1, a2⟩ <;> omega
/-- how many words end ahead of a place -/
def nmF (i : Nat) : Nat := ((List.range 18).filter fun w => cS w + cL w < i).length
theorem nm_step : ∀ i : Fin 92, (strB 1 i.val = 32 → i.val = cS (nmF i.val) + cL (nmF i.val) ∧ nmF i.val < 18 ∧ nmF (i.val + 1) = nmF i.val + 1 ∧ cS (nmF i.val + 1) = i.val + 1) ∧ (strB 1 i.val ≠ 32 → nmF (i.val + 1) = nmF i.val) := by decide +kernel
theorem nm_in : ∀ i : Fin 93, nmF i.val ≤ 18 ∧ cS (nmF i.val) ≤ i.val := by decide +kernel
theorem nm_0 : nmF 0 = 0 := by decide +kernel
theorem nm_92 : nmF 92 = 18 := by decide +kernel
theorem cS_in : ∀ w : Fin 18, cS w.val + cL w.val < 92 := by decide +kernel
def txB (f : Int → Int) : Prop := ∀ j, 0 ≤ j → j < 900 → -128 ≤ f j ∧ f j < 128
theorem mbX.words (E : mbE) (U : State) (H : Heap) (h : mbX E U H) : vk_R RX6 90 "book tone heat member mark saying up down warm cool would closes stroke or and not last who " (E.2.2.2 1) U := h.2.1.2.1
theorem mbX.signs (E : mbE) (U : State) (H : Heap) (h : mbX E U H) : vk_R RX6 82 ";:+-*()[]=<>" (E.2.2.2 2) U := h.2.1.2.2.2
section
variable (d : Nat) (sh : mbSh) (ct : mbCt) {x p e n : Int}
theorem r_isLetter (h0 : -128 ≤ x) (h1 : x < 128) : Mt YX6_isLetter d [.inl x] sh sh ct (pI fun r c => r = b01 (isLt x) ∧ c = ct) := by
  have wx : w32 x = x := w32_id (by omega) (by omega)
  refine Mt.of rfl (Nat.le_of_ble_eq_true rfl) ?_
  show G _ 0 [some (.inl x)] [] sh ct
  refine g_iload_n (q := 1) dX6_isLetter_0 rfl rfl ?_
  refine g_bipush (q := 3) dX6_isLetter_1 (by decide +kernel) rfl ?_
  refine g_icmp_lt (q := 6) (tg := 16) dX6_isLetter_3 (by decide) rfl (fun c_3 => ?_) (fun c_3 => ?_)
  · refine g_iconst (q := 17) dX6_isLetter_16 rfl ?_
    refine g_zreturn dX6_isLetter_17 rfl (by decide +kernel) ?_
    refine ⟨_, rfl, ?_, rfl⟩; rw [wx] at *; first | (apply b01_t; rw [show w32 97 = 97 from rfl] at *; rw [show w32 122 = 122 from rfl] at *; omega) | (apply b01_f; intro z; first | (rw [show w32 97 = 97 from rfl] at *; omega) | (rw [show w32 122 = 122 from rfl] at *; omega))
  · refine g_iload_n (q := 7) dX6_isLetter_6 rfl rfl ?_
    refine g_bipush (q := 9) dX6_isLetter_7 (by decide +kernel) rfl ?_
    refine g_icmp_gt (q := 12) (tg := 16) dX6_isLetter_9 (by decide) rfl (fun c_9 => ?_) (fun c_9 => ?_)
    · refine g_iconst (q := 17) dX6_isLetter_16 rfl ?_
      refine g_zreturn dX6_isLetter_17 rfl (by decide +kernel) ?_
      refine ⟨_, rfl, ?_, rfl⟩; rw [wx] at *; first | (apply b01_t; rw [show w32 97 = 97 from rfl] at *; rw [show w32 122 = 122 from rfl] at *; omega) | (apply b01_f; intro z; first | (rw [show w32 97 = 97 from rfl] at *; omega) | (rw [show w32 122 = 122 from rfl] at *; omega))
    · refine g_iconst (q := 13) dX6_isLetter_12 rfl ?_
      refine g_goto (q := 17) dX6_isLetter_13 (by decide) ?_
      refine g_zreturn dX6_isLetter_17 rfl (by decide +kernel) ?_
      refine ⟨_, rfl, ?_, rfl⟩; rw [wx] at *; first | (apply b01_t; rw [show w32 97 = 97 from rfl] at *; rw [show w32 122 = 122 from rfl] at *; omega) | (apply b01_f; intro z; first | (rw [show w32 97 = 97 from rfl] at *; omega) | (rw [show w32 122 = 122 from rfl] at *; omega))
theorem r_isDigit (h0 : -128 ≤ x) (h1 : x < 128) : Mt YX6_isDigit d [.inl x] sh sh ct (pI fun r c => r = b01 (isDg x) ∧ c = ct) := by
  have wx : w32 x = x := w32_id (by omega) (by omega)
  refine Mt.of rfl (Nat.le_of_ble_eq_true rfl) ?_
  show G _ 0 [some (.inl x)] [] sh ct
  refine g_iload_n (q := 1) dX6_isDigit_0 rfl rfl ?_
  refine g_bipush (q := 3) dX6_isDigit_1 (by decide +kernel) rfl ?_
  refine g_icmp_lt (q := 6) (tg := 16) dX6_isDigit_3 (by decide) rfl (fun c_3 => ?_) (fun c_3 => ?_)
  · refine g_iconst (q := 17) dX6_isDigit_16 rfl ?_
    refine g_zreturn dX6_isDigit_17 rfl (by decide +kernel) ?_
    refine ⟨_, rfl, ?_, rfl⟩; rw [wx] at *; first | (apply b01_t; rw [show w32 48 = 48 from rfl] at *; rw [show w32 57 = 57 from rfl] at *; omega) | (apply b01_f; intro z; first | (rw [show w32 48 = 48 from rfl] at *; omega) | (rw [show w32 57 = 57 from rfl] at *; omega))
  · refine g_iload_n (q := 7) dX6_isDigit_6 rfl rfl ?_
    refine g_bipush (q := 9) dX6_isDigit_7 (by decide +kernel) rfl ?_
    refine g_icmp_gt (q := 12) (tg := 16) dX6_isDigit_9 (by decide) rfl (fun c_9 => ?_) (fun c_9 => ?_)
    · refine g_iconst (q := 17) dX6_isDigit_16 rfl ?_
      refine g_zreturn dX6_isDigit_17 rfl (by decide +kernel) ?_
      refine ⟨_, rfl, ?_, rfl⟩; rw [wx] at *; first | (apply b01_t; rw [show w32 48 = 48 from rfl] at *; rw [show w32 57 = 57 from rfl] at *; omega) | (apply b01_f; intro z; first | (rw [show w32 48 = 48 from rfl] at *; omega) | (rw [show w32 57 = 57 from rfl] at *; omega))
    · refine g_iconst (q := 13) dX6_isDigit_12 rfl ?_
      refine g_goto (q := 17) dX6_isDigit_13 (by decide) ?_
      refine g_zreturn dX6_isDigit_17 rfl (by decide +kernel) ?_
      refine ⟨_, rfl, ?_, rfl⟩; rw [wx] at *; first | (apply b01_t; rw [show w32 48 = 48 from rfl] at *; rw [show w32 57 = 57 from rfl] at *; omega) | (apply b01_f; intro z; first | (rw [show w32 48 = 48 from rfl] at *; omega) | (rw [show w32 57 = 57 from rfl] at *; omega))
theorem r_endOfWord (S : SH sh) (L : LK ct) (hT : txB (ct 1)) (h0 : 0 ≤ p) (h1 : p ≤ n) (h2 : n ≤ 900) : Mt YX6_endOfWord (d + 1) [.inr (.inr 64), .inl p, .inl n] sh sh ct (pI fun r c => runE isLt (ct 1) n p r ∧ c = ct) := by
  have s1 : shA sh 1 = some (22, 900) := S.at _ rfl
  refine Mt.of rfl (Nat.le_of_ble_eq_true rfl) ?_
  show G _ 0 [some (.inr (.inr 64)), some (.inl p), some (.inl n), none] [] sh ct
  refine g_iload_n (q := 1) dX6_endOfWord_0 rfl rfl ?_
  refine s_istore_n_4_3 (q := 2) dX6_endOfWord_1 rfl rfl rfl ?_
  refine g_for (fun k => [some (.inr (.inr 64)), some (.inl p), some (.inl n), some (.inl k)]) (fun k c => p ≤ k ∧ c = ct ∧ ∀ j, p ≤ j → j < k → isLt (ct 1 j)) n ?_ ?_ (i := p) h1 ⟨Int.le_refl _, rfl, fun j a b => by omega⟩ (by simp [lsSub])
  · rintro k c hk ⟨k0, rfl, hj⟩ kk
    have hb := hT k (by omega) (by omega)
    refine g_iload_n (q := 3) dX6_endOfWord_2 rfl rfl ?_
    refine g_iload_n (q := 4) dX6_endOfWord_3 rfl rfl ?_
    refine g_icmp_ge (q := 7) (tg := 25) dX6_endOfWord_4 (by decide) rfl (fun c_4 => ?_) (fun c_4 => ?_)
    · exact absurd c_4 (by rw [w32_id (x := k) (by omega) (by omega), w32_id (x := n) (by omega) (by omega)]; omega)
    · refine g_aload_n (q := 8) dX6_endOfWord_7 rfl rfl ?_
      refine g_getA (q := 11) (kI := 2) fX6_22 (by first | assumption | exact S.at _ rfl) dX6_endOfWord_8 rfl rfl (by first | assumption | exact L.at _ _ rfl | exact LK.at (by assumption) _ _ rfl | ((repeat first | rewrite [wr_na (by decide)] | rewrite [wr_nk (by decide)] | rewrite [wa_na (by decide)]); first | assumption | exact LK.at (by assumption) _ _ rfl) | exact rfl) ?_
      refine g_iload_n (q := 12) dX6_endOfWord_11 rfl rfl ?_
      refine g_baload (q := 13) (by first | assumption | exact S.at _ rfl) (by omega) (by omega) (by omega) dX6_endOfWord_12 rfl ?_
      refine g_callS (q := 16) lX6_63 mX6_isLetter sX6_isLetter rfl (r_isLetter d sh _ hb.1 hb.2) shLe.rf (rmOk.mk (by omega) (by first | exact shLe.rf | assumption)) (Nat.le_of_ble_eq_true rfl) dX6_endOfWord_13 rfl rfl (kI fun r_ c_ hp => ?_)
      obtain ⟨hr, hq⟩ := hp
      replace hr := hr.symm
      replace hq := hq.symm
      subst hr hq
      refine g_if_eq (q := 19) (tg := 25) dX6_endOfWord_16 (by decide) rfl (fun c_16 => ?_) (fun c_16 => ?_)
      · refine g_iload_n (q := 26) dX6_endOfWord_25 rfl rfl ?_
        refine g_ireturn dX6_endOfWord_26 rfl ?_
        exact ⟨_, rfl, ⟨⟨k0, by omega⟩, hj, fun _ => wb0.mp c_16⟩, rfl⟩
      · refine s_iinc_4_3 (q := 22) dX6_endOfWord_19 rfl rfl rfl ?_
        refine g_goto (q := 2) dX6_endOfWord_22 (by decide) ?_
        refine kk _ _ (by simp [lsSub]) ⟨by omega, rfl, fun j a b => ?_⟩
        by_cases h : j = k
        · rw [h]
          exact wbn.mp c_16
        · exact hj j a (by omega)
  · rintro c ⟨k0, rfl, hj⟩
    refine g_iload_n (q := 3) dX6_endOfWord_2 rfl rfl ?_
    refine g_iload_n (q := 4) dX6_endOfWord_3 rfl rfl ?_
    refine g_icmp_ge (q := 7) (tg := 25) dX6_endOfWord_4 (by decide) rfl (fun c_4 => ?_) (fun c_4 => ?_)
    · refine g_iload_n (q := 26) dX6_endOfWord_25 rfl rfl ?_
      refine g_ireturn dX6_endOfWord_26 rfl ?_
      exact ⟨_, rfl, ⟨⟨k0, Int.le_refl _⟩, hj, fun h => by omega⟩, rfl⟩
    · exact absurd c_4 (Int.lt_irrefl _)
theorem r_endOfDigits (S : SH sh) (L : LK ct) (hT : txB (ct 1)) (h0 : 0 ≤ p) (h1 : p ≤ n) (h2 : n ≤ 900) : Mt YX6_endOfDigits (d + 1) [.inr (.inr 64), .inl p, .inl n] sh sh ct (pI fun r c => runE isDg (ct 1) n p r ∧ c = ct) := by
  have s1 : shA sh 1 = some (22, 900) := S.at _ rfl
  refine Mt.of rfl (Nat.le_of_ble_eq_true rfl) ?_
  show G _ 0 [some (.inr (.inr 64)), some (.inl p), some (.inl n), none] [] sh ct
  refine g_iload_n (q := 1) dX6_endOfDigits_0 rfl rfl ?_
  refine s_istore_n_4_3 (q := 2) dX6_endOfDigits_1 rfl rfl rfl ?_
  refine g_for (fun k => [some (.inr (.inr 64)), some (.inl p), some (.inl n), some (.inl k)]) (fun k c => p ≤ k ∧ c = ct ∧ ∀ j, p ≤ j → j < k → isDg (ct 1 j)) n ?_ ?_ (i := p) h1 ⟨Int.le_refl _, rfl, fun j a b => by omega⟩ (by simp [lsSub])
  · rintro k c hk ⟨k0, rfl, hj⟩ kk
    have hb := hT k (by omega) (by omega)
    refine g_iload_n (q := 3) dX6_endOfDigits_2 rfl rfl ?_
    refine g_iload_n (q := 4) dX6_endOfDigits_3 rfl rfl ?_
    refine g_icmp_ge (q := 7) (tg := 25) dX6_endOfDigits_4 (by decide) rfl (fun c_4 => ?_) (fun c_4 => ?_)
    · exact absurd c_4 (by rw [w32_id (x := k) (by omega) (by omega), w32_id (x := n) (by omega) (by omega)]; omega)
    · refine g_aload_n (q := 8) dX6_endOfDigits_7 rfl rfl ?_
      refine g_getA (q := 11) (kI := 2) fX6_22 (by first | assumption | exact S.at _ rfl) dX6_endOfDigits_8 rfl rfl (by first | assumption | exact L.at _ _ rfl | exact LK.at (by assumption) _ _ rfl | ((repeat first | rewrite [wr_na (by decide)] | rewrite [wr_nk (by decide)] | rewrite [wa_na (by decide)]); first | assumption | exact LK.at (by assumption) _ _ rfl) | exact rfl) ?_
      refine g_iload_n (q := 12) dX6_endOfDigits_11 rfl rfl ?_
      refine g_baload (q := 13) (by first | assumption | exact S.at _ rfl) (by omega) (by omega) (by omega) dX6_endOfDigits_12 rfl ?_
      refine g_callS (q := 16) lX6_73 mX6_isDigit sX6_isDigit rfl (r_isDigit d sh _ hb.1 hb.2) shLe.rf (rmOk.mk (by omega) (by first | exact shLe.rf | assumption)) (Nat.le_of_ble_eq_true rfl) dX6_endOfDigits_13 rfl rfl (kI fun r_ c_ hp => ?_)
      obtain ⟨hr, hq⟩ := hp
      replace hr := hr.symm
      replace hq := hq.symm
      subst hr hq
      refine g_if_eq (q := 19) (tg := 25) dX6_endOfDigits_16 (by decide) rfl (fun c_16 => ?_) (fun c_16 => ?_)
      · refine g_iload_n (q := 26) dX6_endOfDigits_25 rfl rfl ?_
        refine g_ireturn dX6_endOfDigits_26 rfl ?_
        exact ⟨_, rfl, ⟨⟨k0, by omega⟩, hj, fun _ => wb0.mp c_16⟩, rfl⟩
      · refine s_iinc_4_3 (q := 22) dX6_endOfDigits_19 rfl rfl rfl ?_
        refine g_goto (q := 2) dX6_endOfDigits_22 (by decide) ?_
        refine kk _ _ (by simp [lsSub]) ⟨by omega, rfl, fun j a b => ?_⟩
        by_cases h : j = k
        · rw [h]
          exact wbn.mp c_16
        · exact hj j a (by omega)
  · rintro c ⟨k0, rfl, hj⟩
    refine g_iload_n (q := 3) dX6_endOfDigits_2 rfl rfl ?_
    refine g_iload_n (q := 4) dX6_endOfDigits_3 rfl rfl ?_
    refine g_icmp_ge (q := 7) (tg := 25) dX6_endOfDigits_4 (by decide) rfl (fun c_4 => ?_) (fun c_4 => ?_)
    · refine g_iload_n (q := 26) dX6_endOfDigits_25 rfl rfl ?_
      refine g_ireturn dX6_endOfDigits_26 rfl ?_
      exact ⟨_, rfl, ⟨⟨k0, Int.le_refl _⟩, hj, fun h => by omega⟩, rfl⟩
    · exact absurd c_4 (Int.lt_irrefl _)
theorem r_kindOfDigits (S : SH sh) (L : LK ct) (h0 : 0 ≤ p) (h1 : p ≤ e) (h2 : e ≤ 900) : Mt YX6_kindOfDigits d [.inr (.inr 64), .inl p, .inl e] sh sh ct (pI fun r c => r = digK (ct 1) p e ∧ c = ct) := by
  have s1 : shA sh 1 = some (22, 900) := S.at _ rfl
  refine Mt.of rfl (Nat.le_of_ble_eq_true rfl) ?_
  show G _ 0 [some (.inr (.inr 64)), some (.inl p), some (.inl e), none, none] [] sh ct
  refine g_iload_n (q := 1) dX6_kindOfDigits_0 rfl rfl ?_
  refine g_iload_n (q := 2) dX6_kindOfDigits_1 rfl rfl ?_
  refine g_isub (q := 3) dX6_kindOfDigits_2 rfl ?_
  refine g_iconst (q := 4) dX6_kindOfDigits_3 rfl ?_
  refine g_icmp_le (q := 7) (tg := 11) dX6_kindOfDigits_4 (by decide) rfl (fun c_4 => ?_) (fun c_4 => ?_)
  · have h3 : ¬ 3 < e - p := by rw [w32_id (x := e - p) (by omega) (by omega), show w32 3 = 3 from rfl] at c_4; omega
    refine g_iconst (q := 12) dX6_kindOfDigits_11 rfl ?_
    refine s_istore_n_5_3 (q := 13) dX6_kindOfDigits_12 rfl rfl rfl ?_
    refine g_iload_n (q := 14) dX6_kindOfDigits_13 rfl rfl ?_
    refine s_istore_5_4 (q := 16) dX6_kindOfDigits_14 rfl rfl rfl ?_
    refine g_for (fun k => [some (.inr (.inr 64)), some (.inl p), some (.inl e), some (.inl (numV (ct 1) p (k - p).toNat)), some (.inl k)]) (fun k c => p ≤ k ∧ c = ct) e ?_ ?_ (i := p) h1 ⟨Int.le_refl _, rfl⟩ (by rw [show (p - p).toNat = 0 by omega]; simp [lsSub]; rfl)
    · rintro k c hk ⟨k0, rfl⟩ kk
      refine g_iload (q := 18) dX6_kindOfDigits_16 rfl rfl ?_
      refine g_iload_n (q := 19) dX6_kindOfDigits_18 rfl rfl ?_
      refine g_icmp_ge (q := 22) (tg := 44) dX6_kindOfDigits_19 (by decide) rfl (fun c_19 => ?_) (fun c_19 => ?_)
      · exact absurd c_19 (by rw [w32_id (x := k) (by omega) (by omega), w32_id (x := e) (by omega) (by omega)]; omega)
      · refine g_iload_n (q := 23) dX6_kindOfDigits_22 rfl rfl ?_
        refine g_bipush (q := 25) dX6_kindOfDigits_23 (by decide +kernel) rfl ?_
        refine g_imul (q := 26) dX6_kindOfDigits_25 rfl ?_
        refine g_aload_n (q := 27) dX6_kindOfDigits_26 rfl rfl ?_
        refine g_getA (q := 30) (kI := 2) fX6_22 (by first | assumption | exact S.at _ rfl) dX6_kindOfDigits_27 rfl rfl (by first | assumption | exact L.at _ _ rfl | exact LK.at (by assumption) _ _ rfl | ((repeat first | rewrite [wr_na (by decide)] | rewrite [wr_nk (by decide)] | rewrite [wa_na (by decide)]); first | assumption | exact LK.at (by assumption) _ _ rfl) | exact rfl) ?_
        refine g_iload (q := 32) dX6_kindOfDigits_30 rfl rfl ?_
        refine g_baload (q := 33) (by first | assumption | exact S.at _ rfl) (by omega) (by omega) (by omega) dX6_kindOfDigits_32 rfl ?_
        refine g_iadd (q := 34) dX6_kindOfDigits_33 rfl ?_
        refine g_bipush (q := 36) dX6_kindOfDigits_34 (by decide +kernel) rfl ?_
        refine g_isub (q := 37) dX6_kindOfDigits_36 rfl ?_
        refine s_istore_n_5_3 (q := 38) dX6_kindOfDigits_37 rfl rfl rfl ?_
        refine s_iinc_5_4 (q := 41) dX6_kindOfDigits_38 rfl rfl rfl ?_
        refine g_goto (q := 16) dX6_kindOfDigits_41 (by decide) ?_
        refine kk _ _ ?_ ⟨by omega, rfl⟩
        rw [show (k + 1 - p).toNat = (k - p).toNat + 1 by omega]
        have hh : numV (c 1) p ((k - p).toNat + 1) = numV (c 1) p (k - p).toNat * 10 + c 1 k - 48 := by
          show _ * 10 + c 1 (p + ((k - p).toNat : Nat)) - 48 = _
          rw [show p + (((k - p).toNat : Nat) : Int) = k by omega]
        rw [hh]
        simp [lsSub]
    · rintro c ⟨k0, rfl⟩
      refine g_iload (q := 18) dX6_kindOfDigits_16 rfl rfl ?_
      refine g_iload_n (q := 19) dX6_kindOfDigits_18 rfl rfl ?_
      refine g_icmp_ge (q := 22) (tg := 44) dX6_kindOfDigits_19 (by decide) rfl (fun c_19 => ?_) (fun c_19 => ?_)
      · refine g_sipush (q := 47) dX6_kindOfDigits_44 (by decide +kernel) rfl ?_
        refine g_iload_n (q := 48) dX6_kindOfDigits_47 rfl rfl ?_
        refine g_iadd (q := 49) dX6_kindOfDigits_48 rfl ?_
        refine g_ireturn dX6_kindOfDigits_49 rfl ?_
        refine ⟨_, rfl, ?_, rfl⟩
        unfold digK
        rw [if_neg h3]
      · exact absurd c_19 (Int.lt_irrefl _)
  · have h3 : 3 < e - p := by rw [w32_id (x := e - p) (by omega) (by omega), show w32 3 = 3 from rfl] at c_4; omega
    refine g_sipush (q := 10) dX6_kindOfDigits_7 (by decide +kernel) rfl ?_
    refine g_ireturn dX6_kindOfDigits_10 rfl ?_
    refine ⟨_, rfl, ?_, rfl⟩
    unfold digK
    rw [if_pos h3]
theorem r_isWord {w : Nat} (S : SH sh) (L : LK ct) (hT : txB (ct 1)) (hw : w < 18) (h0 : 0 ≤ p) (h2 : e ≤ 900) (hl : e - p = (cL w : Nat)) : Mt YX6_isWord (d + 4) [.inr (.inr 64), .inl (cS w : Nat), .inl p, .inl e] sh sh ct (pI fun r c => ((r = 1 ∧ isW (ct 1) p e w) ∨ (r = 0 ∧ ¬ isW (ct 1) p e w)) ∧ c = ct) := by
  have s1 : shA sh 1 = some (22, 900) := S.at _ rfl
  have hcs := cS_in ⟨w, hw⟩
  have hcs' : cS w + cL w < 92 := hcs
  have hsn : strN 1 = 92 := rfl
  refine Mt.of rfl (Nat.le_of_ble_eq_true rfl) ?_
  show G _ 0 [some (.inr (.inr 64)), some (.inl (cS w : Nat)), some (.inl p), some (.inl e), none] [] sh ct
  refine g_iload_n (q := 1) dX6_isWord_0 rfl rfl ?_
  refine s_istore_5_4 (q := 3) dX6_isWord_1 rfl rfl rfl ?_
  refine g_for (fun k => [some (.inr (.inr 64)), some (.inl (cS w : Nat)), some (.inl p), some (.inl e), some (.inl k)]) (fun k c => p ≤ k ∧ c = ct ∧ ∀ j : Nat, p + j < k → ct 1 (p + j) = strB 1 (cS w + j)) e ?_ ?_ (i := p) (by omega) ⟨Int.le_refl _, rfl, fun j a => by omega⟩ (by simp [lsSub])
  · rintro k c hk ⟨k0, rfl, hj⟩ kk
    have hb := hT k (by omega) (by omega)
    have hin : (((cS w : Nat) : Int) + k - p).toNat = cS w + (k - p).toNat := by omega
    have hsb := strB_in (i := 1) (j := cS w + (k - p).toNat) (by decide) (by rw [hsn]; omega)
    refine g_iload (q := 5) dX6_isWord_3 rfl rfl ?_
    refine g_iload_n (q := 6) dX6_isWord_5 rfl rfl ?_
    refine g_icmp_ge (q := 9) (tg := 38) dX6_isWord_6 (by decide) rfl (fun c_6 => ?_) (fun c_6 => ?_)
    · exact absurd c_6 (by rw [w32_id (x := k) (by omega) (by omega), w32_id (x := e) (by omega) (by omega)]; omega)
    · refine g_aload_n (q := 10) dX6_isWord_9 rfl rfl ?_
      refine g_getA (q := 13) (kI := 2) fX6_22 (by first | assumption | exact S.at _ rfl) dX6_isWord_10 rfl rfl (by first | assumption | exact L.at _ _ rfl | exact LK.at (by assumption) _ _ rfl | ((repeat first | rewrite [wr_na (by decide)] | rewrite [wr_nk (by decide)] | rewrite [wa_na (by decide)]); first | assumption | exact LK.at (by assumption) _ _ rfl) | exact rfl) ?_
      refine g_iload (q := 15) dX6_isWord_13 rfl rfl ?_
      refine g_baload (q := 16) (by first | assumption | exact S.at _ rfl) (by omega) (by omega) (by omega) dX6_isWord_15 rfl ?_
      refine g_ldcS (q := 18) (i := 1) mbX.words dX6_isWord_16 rfl ?_
      refine g_iload_n (q := 19) dX6_isWord_18 rfl rfl ?_
      refine g_iload (q := 21) dX6_isWord_19 rfl rfl ?_
      refine g_iadd (q := 22) dX6_isWord_21 rfl ?_
      refine g_iload_n (q := 23) dX6_isWord_22 rfl rfl ?_
      refine g_isub (q := 24) dX6_isWord_23 rfl ?_
      refine g_callT (as := [.inl (((cS w : Nat) : Int) + k - p)]) (q := 27) (by decide) lX6_96 mJ0_charAt_5068e nJ0_charAt_5068e rfl rfl (j_charAt d sh c (i := 1) (by decide) (by omega) (by rw [hsn]; omega)) shLe.rf (rmOk.mk (by omega) shLe.rf) (Nat.le_of_ble_eq_true rfl) dX6_isWord_24 rfl rfl (kI fun r c2 hp => ?_)
      obtain ⟨rfl, rfl⟩ := hp
      rw [hin]
      refine g_icmp_eq (q := 30) (tg := 32) dX6_isWord_27 (by decide) rfl (fun c_27 => ?_) (fun c_27 => ?_)
      · rw [w32_id (x := c2 1 k) (by omega) (by omega), w32_id (x := strB 1 (cS w + (k - p).toNat)) (by omega) (by omega)] at c_27
        refine s_iinc_5_4 (q := 35) dX6_isWord_32 rfl rfl rfl ?_
        refine g_goto (q := 3) dX6_isWord_35 (by decide) ?_
        refine kk _ _ (by simp [lsSub]) ⟨by omega, rfl, fun j a => ?_⟩
        by_cases h : p + (j : Int) = k
        · rw [h, c_27, show (k - p).toNat = j by omega]
        · exact hj j (by omega)
      · rw [w32_id (x := c2 1 k) (by omega) (by omega), w32_id (x := strB 1 (cS w + (k - p).toNat)) (by omega) (by omega)] at c_27
        refine g_iconst (q := 31) dX6_isWord_30 rfl ?_
        refine g_zreturn dX6_isWord_31 rfl (by decide +kernel) ?_
        refine ⟨_, rfl, Or.inr ⟨rfl, fun h => ?_⟩, rfl⟩
        have := h.2 (k - p).toNat (by omega)
        rw [show p + (((k - p).toNat : Nat) : Int) = k by omega] at this
        exact c_27 this
  · rintro c ⟨k0, rfl, hj⟩
    refine g_iload (q := 5) dX6_isWord_3 rfl rfl ?_
    refine g_iload_n (q := 6) dX6_isWord_5 rfl rfl ?_
    refine g_icmp_ge (q := 9) (tg := 38) dX6_isWord_6 (by decide) rfl (fun c_6 => ?_) (fun c_6 => ?_)
    · refine g_iconst (q := 39) dX6_isWord_38 rfl ?_
      refine g_zreturn dX6_isWord_39 rfl (by decide +kernel) ?_
      exact ⟨_, rfl, Or.inl ⟨rfl, hl, fun j hj2 => hj j (by omega)⟩, rfl⟩
    · exact absurd c_6 (Int.lt_irrefl _)
theorem r_kindOfWord (S : SH sh) (L : LK ct) (hT : txB (ct 1)) (h0 : 0 ≤ p) (h1 : p ≤ e) (h2 : e ≤ 900) : Mt YX6_kindOfWord (d + 5) [.inr (.inr 64), .inl p, .inl e] sh sh ct (pI fun r c => kindW (ct 1) p e r ∧ c = ct) := by
  have hsn : strN 1 = 92 := rfl
  refine Mt.of rfl (Nat.le_of_ble_eq_true rfl) ?_
  show G _ 0 [some (.inr (.inr 64)), some (.inl p), some (.inl e), none, none, none] [] sh ct
  refine g_iconst (q := 1) dX6_kindOfWord_0 rfl ?_
  refine s_istore_n_6_3 (q := 2) dX6_kindOfWord_1 rfl rfl rfl ?_
  refine g_iconst (q := 3) dX6_kindOfWord_2 rfl ?_
  refine s_istore_6_4 (q := 5) dX6_kindOfWord_3 rfl rfl rfl ?_
  refine g_iconst (q := 6) dX6_kindOfWord_5 rfl ?_
  refine s_istore_6_5 (q := 8) dX6_kindOfWord_6 rfl rfl rfl ?_
  refine g_for (fun k => [some (.inr (.inr 64)), some (.inl p), some (.inl e), some (.inl (nmF k.toNat : Nat)), some (.inl (cS (nmF k.toNat) : Nat)), some (.inl k)]) (fun k c => 0 ≤ k ∧ c = ct ∧ ∀ w : Nat, w < nmF k.toNat → ¬ isW (ct 1) p e w) 92 ?_ ?_ (i := 0) (by omega) ⟨by omega, rfl, fun w hw => ?_⟩ ?_
  · rintro k c hk ⟨k0, rfl, hno⟩ kk
    obtain ⟨t1, t2⟩ := nm_step ⟨k.toNat, by omega⟩
    dsimp only at t1 t2
    have hni := nm_in ⟨k.toNat, by omega⟩
    dsimp only at hni
    have hsb := strB_in (i := 1) (j := k.toNat) (by decide) (by rw [hsn]; omega)
    have hk1 : (k + 1).toNat = k.toNat + 1 := by omega
    refine g_iload (q := 10) dX6_kindOfWord_8 rfl rfl ?_
    refine g_ldcS (q := 12) (i := 1) mbX.words dX6_kindOfWord_10 rfl ?_
    refine g_callT (as := []) (q := 15) (by decide) lX6_92 mJ0_length_8abf5 nJ0_length_8abf5 rfl rfl (j_length (d + 3) sh c (i := 1) (by decide)) shLe.rf (rmOk.mk (by omega) shLe.rf) (Nat.le_of_ble_eq_true rfl) dX6_kindOfWord_12 rfl rfl (kI fun r c2 hp => ?_)
    obtain ⟨rfl, rfl⟩ := hp
    rw [hsn]
    refine g_icmp_ge (q := 18) (tg := 73) dX6_kindOfWord_15 (by decide) rfl (fun c_15 => ?_) (fun c_15 => ?_)
    · exact absurd c_15 (by rw [w32_id (x := k) (by omega) (by omega), show w32 ((92 : Nat) : Int) = 92 from rfl]; omega)
    · refine g_ldcS (q := 20) (i := 1) mbX.words dX6_kindOfWord_18 rfl ?_
      refine g_iload (q := 22) dX6_kindOfWord_20 rfl rfl ?_
      refine g_callT (as := [.inl k]) (q := 25) (by decide) lX6_96 mJ0_charAt_5068e nJ0_charAt_5068e rfl rfl (j_charAt (d + 1) sh c2 (i := 1) (by decide) k0 (by rw [hsn]; omega)) shLe.rf (rmOk.mk (by omega) shLe.rf) (Nat.le_of_ble_eq_true rfl) dX6_kindOfWord_22 rfl rfl (kI fun r c3 hp => ?_)
      obtain ⟨rfl, rfl⟩ := hp
      refine g_bipush (q := 27) dX6_kindOfWord_25 (by decide +kernel) rfl ?_
      refine g_icmp_ne (q := 30) (tg := 67) dX6_kindOfWord_27 (by decide) rfl (fun c_27 => ?_) (fun c_27 => ?_)
      · have hne : strB 1 k.toNat ≠ 32 := fun z => c_27 (by rw [z])
        refine s_iinc_6_5 (q := 70) dX6_kindOfWord_67 rfl rfl rfl ?_
        refine g_goto (q := 8) dX6_kindOfWord_70 (by decide) ?_
        refine kk _ _ ?_ ⟨by omega, rfl, fun w hw => ?_⟩
        · rw [hk1, t2 hne]
          simp [lsSub]
        · rw [hk1, t2 hne] at hw
          exact hno w hw
      · have heq : strB 1 k.toNat = 32 := by
          rw [w32_id (x := strB 1 k.toNat) (by omega) (by omega), show w32 32 = 32 from rfl] at c_27
          exact c_27
        obtain ⟨u1, u2, u3, u4⟩ := t1 heq
        have next : ∀ c : mbCt, c = c3 → ¬ isW (c3 1) p e (nmF k.toNat) → G (mkK YX6_kindOfWord (d + 5) sh sh (pI fun r c => kindW (c3 1) p e r ∧ c = c3)) 58 [some (.inr (.inr 64)), some (.inl p), some (.inl e), some (.inl (nmF k.toNat : Nat)), some (.inl (cS (nmF k.toNat) : Nat)), some (.inl k)] [] sh c := by
          rintro c rfl hnw
          refine s_iinc_6_3 (q := 61) dX6_kindOfWord_58 rfl rfl rfl ?_
          refine g_iload (q := 63) dX6_kindOfWord_61 rfl rfl ?_
          refine g_iconst (q := 64) dX6_kindOfWord_63 rfl ?_
          refine g_iadd (q := 65) dX6_kindOfWord_64 rfl ?_
          refine s_istore_6_4 (q := 67) dX6_kindOfWord_65 rfl rfl rfl ?_
          refine s_iinc_6_5 (q := 70) dX6_kindOfWord_67 rfl rfl rfl ?_
          refine g_goto (q := 8) dX6_kindOfWord_70 (by decide) ?_
          refine kk _ _ ?_ ⟨by omega, rfl, fun w hw => ?_⟩
          · rw [hk1, u3, u4]
            simp [lsSub]
            omega
          · rw [hk1, u3] at hw
            by_cases hwe : w = nmF k.toNat
            · rw [hwe]
              exact hnw
            · exact hno w (by omega)
        refine g_iload (q := 32) dX6_kindOfWord_30 rfl rfl ?_
        refine g_iload (q := 34) dX6_kindOfWord_32 rfl rfl ?_
        refine g_isub (q := 35) dX6_kindOfWord_34 rfl ?_
        refine g_iload_n (q := 36) dX6_kindOfWord_35 rfl rfl ?_
        refine g_iload_n (q := 37) dX6_kindOfWord_36 rfl rfl ?_
        refine g_isub (q := 38) dX6_kindOfWord_37 rfl ?_
        refine g_icmp_ne (q := 41) (tg := 58) dX6_kindOfWord_38 (by decide) rfl (fun c_38 => ?_) (fun c_38 => ?_)
        · refine next c3 rfl (fun h => c_38 ?_)
          have := h.1
          rw [show k - ((cS (nmF k.toNat) : Nat) : Int) = e - p by omega]
        · have hlen : e - p = (cL (nmF k.toNat) : Nat) := by
            rw [w32_id (x := k - ((cS (nmF k.toNat) : Nat) : Int)) (by omega) (by omega), w32_id (x := e - p) (by omega) (by omega)] at c_38
            omega
          refine g_aload_n (q := 42) dX6_kindOfWord_41 rfl rfl ?_
          refine g_iload (q := 44) dX6_kindOfWord_42 rfl rfl ?_
          refine g_iload_n (q := 45) dX6_kindOfWord_44 rfl rfl ?_
          refine g_iload_n (q := 46) dX6_kindOfWord_45 rfl rfl ?_
          refine g_callV (q := 49) lX6_100 mX6_isWord nX6_isWord rfl (r_isWord d sh _ S L hT u2 h0 h2 hlen) (by first | assumption | exact S.at _ rfl) rfl rfl shLe.rf (rmOk.mk (by omega) (by first | exact shLe.rf | assumption)) (Nat.le_of_ble_eq_true rfl) dX6_kindOfWord_46 rfl rfl (kI fun r c4 hp => ?_)
          obtain ⟨hp, rfl⟩ := hp
          rcases hp with ⟨rfl, hw⟩ | ⟨rfl, hw⟩
          · refine g_if_eq (q := 52) (tg := 58) dX6_kindOfWord_49 (by decide) rfl (fun c_49 => ?_) (fun c_49 => ?_)
            · exact absurd c_49 (by decide)
            · refine g_sipush (q := 55) dX6_kindOfWord_52 (by decide +kernel) rfl ?_
              refine g_iload_n (q := 56) dX6_kindOfWord_55 rfl rfl ?_
              refine g_iadd (q := 57) dX6_kindOfWord_56 rfl ?_
              refine g_ireturn dX6_kindOfWord_57 rfl ?_
              exact ⟨_, rfl, Or.inl ⟨nmF k.toNat, u2, hw, rfl⟩, rfl⟩
          · refine g_if_eq (q := 52) (tg := 58) dX6_kindOfWord_49 (by decide) rfl (fun c_49 => ?_) (fun c_49 => ?_)
            · exact next c4 rfl hw
            · exact absurd rfl c_49
  · rintro c ⟨k0, rfl, hno⟩
    rw [show (92 : Int).toNat = 92 from rfl, nm_92] at hno
    refine g_iload (q := 10) dX6_kindOfWord_8 rfl rfl ?_
    refine g_ldcS (q := 12) (i := 1) mbX.words dX6_kindOfWord_10 rfl ?_
    refine g_callT (as := []) (q := 15) (by decide) lX6_92 mJ0_length_8abf5 nJ0_length_8abf5 rfl rfl (j_length (d + 3) sh c (i := 1) (by decide)) shLe.rf (rmOk.mk (by omega) shLe.rf) (Nat.le_of_ble_eq_true rfl) dX6_kindOfWord_12 rfl rfl (kI fun r c2 hp => ?_)
    obtain ⟨rfl, rfl⟩ := hp
    rw [hsn]
    refine g_icmp_ge (q := 18) (tg := 73) dX6_kindOfWord_15 (by decide) rfl (fun c_15 => ?_) (fun c_15 => ?_)
    · refine g_sipush (q := 76) dX6_kindOfWord_73 (by decide +kernel) rfl ?_
      refine g_ireturn dX6_kindOfWord_76 rfl ?_
      exact ⟨_, rfl, Or.inr ⟨hno, rfl⟩, rfl⟩
    · exact absurd c_15 (by decide)
  · rw [show (0 : Int).toNat = 0 from rfl, nm_0] at hw
    omega
  · rw [show (0 : Int).toNat = 0 from rfl, nm_0]
    simp [lsSub]
    rfl
end
