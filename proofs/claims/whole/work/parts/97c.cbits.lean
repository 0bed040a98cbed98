/-! how many bits a long has -/
def dg : List Nat → Nat
  | [] => 0
  | a :: l => a + 256 * dg l
theorem tb_256 {a y : Nat} (h : a < 256) (j : Nat) : (a + 256 * y).testBit j = if j < 8 then a.testBit j else y.testBit (j - 8) := by
  have := Nat.testBit_two_pow_mul_add y (show a < 2 ^ 8 from h) j
  rw [show (2 : Nat) ^ 8 * y + a = a + 256 * y by omega] at this
  exact this
theorem dg_msk {k m0 : Nat} (hk : k ≤ 8) (hm : m0 < 2 ^ (8 - k)) : ∀ l : List Nat, (∀ a ∈ l, a < 256) → (dg l >>> k) &&& dg (l.map fun _ => m0) = dg (l.map fun a => (a >>> k) &&& m0)
  | [], _ => by
    show (0 >>> k) &&& 0 = 0
    simp
  | a :: l, h => by
    have ha := h a (by simp)
    have hm8 : m0 < 256 := Nat.lt_of_lt_of_le hm (Nat.pow_le_pow_right (n := 2) (by decide) (show 8 - k ≤ 8 by omega))
    have ih := dg_msk hk hm l (fun x hx => h x (by simp [hx]))
    have hb : (a >>> k) &&& m0 < 256 := Nat.lt_of_le_of_lt Nat.and_le_right hm8
    show ((a + 256 * dg l) >>> k) &&& (m0 + 256 * dg (l.map fun _ => m0)) = ((a >>> k) &&& m0) + 256 * dg (l.map fun a => (a >>> k) &&& m0)
    apply Nat.eq_of_testBit_eq
    intro j
    rw [Nat.testBit_and, Nat.testBit_shiftRight, tb_256 ha, tb_256 hm8, tb_256 hb, Nat.testBit_and, Nat.testBit_shiftRight, ← ih, Nat.testBit_and, Nat.testBit_shiftRight]
    by_cases hj : j < 8
    · rw [if_pos hj, if_pos hj]
      by_cases hjk : k + j < 8
      · rw [if_pos hjk]
      · have : m0.testBit j = false := Nat.testBit_lt_two_pow (Nat.lt_of_lt_of_le hm (Nat.pow_le_pow_right (by decide) (by omega)))
        rw [this]
        simp
    · rw [if_neg hj, if_neg hj, if_neg (by omega), show k + j - 8 = k + (j - 8) by omega]
theorem dg_sub {f g : Nat → Nat} (h : ∀ a, g a ≤ f a) : ∀ l : List Nat, dg (l.map f) - dg (l.map g) = dg (l.map fun a => f a - g a) ∧ dg (l.map g) ≤ dg (l.map f)
  | [] => ⟨rfl, Nat.le_refl _⟩
  | a :: l => by
    have ih := dg_sub h l
    have := h a
    show (f a + 256 * dg (l.map f)) - (g a + 256 * dg (l.map g)) = (f a - g a) + 256 * dg (l.map fun a => f a - g a) ∧ g a + 256 * dg (l.map g) ≤ f a + 256 * dg (l.map f)
    omega
theorem dg_add {f g : Nat → Nat} : ∀ l : List Nat, dg (l.map f) + dg (l.map g) = dg (l.map fun a => f a + g a)
  | [] => rfl
  | a :: l => by
    have ih := dg_add (f := f) (g := g) l
    show (f a + 256 * dg (l.map f)) + (g a + 256 * dg (l.map g)) = (f a + g a) + 256 * dg (l.map fun a => f a + g a)
    omega
theorem dg_cnt : ∀ l : List Nat, (∀ a ∈ l, a < 256) → cntB (fun i => (dg l).testBit i) (8 * l.length) = (l.map fun a => cntB (fun i => a.testBit i) 8).sum
  | [], _ => rfl
  | a :: l, h => by
    have ih := dg_cnt l (fun x hx => h x (by simp [hx]))
    have ha := h a (by simp)
    have add : ∀ (p : Nat → Bool) (m n : Nat), cntB p (m + n) = cntB p m + cntB (fun i => p (m + i)) n := by
      intro p m n
      induction n with
      | zero => rfl
      | succ n ih2 =>
        show cntB p (m + n) + (if p (m + n) = true then 1 else 0) = cntB p m + (cntB (fun i => p (m + i)) n + (if p (m + n) = true then 1 else 0))
        rw [ih2]
        omega
    rw [List.length_cons, show 8 * (l.length + 1) = 8 + 8 * l.length by omega, add, List.map_cons, List.sum_cons, ← ih]
    congr 1
    · apply cntB_cong
      intro i hi
      show (a + 256 * dg l).testBit i = _
      rw [tb_256 ha, if_pos hi]
    · apply cntB_cong
      intro i _
      show (a + 256 * dg l).testBit (8 + i) = _
      rw [tb_256 ha, if_neg (by omega), show 8 + i - 8 = i by omega]
def b1 (a : Nat) : Nat := a - ((a >>> 1) &&& 85)
def b2 (a : Nat) : Nat := (b1 a &&& 51) + ((b1 a >>> 2) &&& 51)
def b3 (a : Nat) : Nat := b2 a / 16 + b2 a % 16
theorem b_chk : ∀ a : Fin 256, b1 a.val < 256 ∧ b2 a.val ≤ 102 ∧ b2 a.val % 16 ≤ 6 ∧ b3 a.val = cntB (fun i => a.val.testBit i) 8 ∧ b3 a.val ≤ 8 := by decide +kernel
theorem b1_le (a : Nat) : (a >>> 1) &&& 85 ≤ a := Nat.le_trans Nat.and_le_left (by rw [Nat.shiftRight_eq_div_pow]; omega)
/-- the bytes of a number -/
def by8 (Z : Nat) : List Nat := [Z % 256, Z / 256 % 256, Z / 65536 % 256, Z / 16777216 % 256, Z / 4294967296 % 256, Z / 1099511627776 % 256, 0, 0]
theorem by8_dg {Z : Nat} (h : Z < 281474976710656) : dg (by8 Z) = Z := by
  unfold by8 dg dg dg dg dg dg dg dg dg
  omega
theorem by8_lt (Z : Nat) : ∀ a ∈ by8 Z, a < 256 := by
  intro a ha
  unfold by8 at ha
  simp only [List.mem_cons, List.not_mem_nil, or_false] at ha
  omega
theorem and_nat {a b : Nat} (ha : a < 18446744073709551616) (hb : b < 18446744073709551616) : andL a b = ((a &&& b : Nat) : Int) := by
  unfold andL
  rw [show ((a : Int) % 18446744073709551616).toNat = a by omega, show ((b : Int) % 18446744073709551616).toNat = b by omega]
theorem ush_nat {a k : Nat} (ha : a < 18446744073709551616) (hk : k < 64) : ushL a k = ((a >>> k : Nat) : Int) := by
  unfold ushL
  rw [Nat.shiftRight_eq_div_pow, show ((k : Int) % 64).toNat = k by omega, show (a : Int) % 18446744073709551616 = a by omega]
  simp
theorem dg_st2 (l : List Nat) (h : ∀ a ∈ l, a < 256) : (dg l &&& dg (l.map fun _ => 51)) + ((dg l >>> 2) &&& dg (l.map fun _ => 51)) = dg (l.map fun a => (a &&& 51) + ((a >>> 2) &&& 51)) := by
  have h0 := dg_msk (k := 0) (m0 := 51) (by decide) (by decide) l h
  have h2 := dg_msk (k := 2) (m0 := 51) (by decide) (by decide) l h
  rw [Nat.shiftRight_zero] at h0
  rw [h0, h2, dg_add]
  rfl
theorem dg_st3 {c0 c1 c2 c3 c4 c5 c6 c7 : Nat} (h0 : c0 ≤ 102 ∧ c0 % 16 ≤ 6) (h1 : c1 ≤ 102 ∧ c1 % 16 ≤ 6) (h2 : c2 ≤ 102 ∧ c2 % 16 ≤ 6) (h3 : c3 ≤ 102 ∧ c3 % 16 ≤ 6) (h4 : c4 ≤ 102 ∧ c4 % 16 ≤ 6) (h5 : c5 ≤ 102 ∧ c5 % 16 ≤ 6) (h6 : c6 ≤ 102 ∧ c6 % 16 ≤ 6) (h7 : c7 ≤ 102 ∧ c7 % 16 ≤ 6) : (dg [c0, c1, c2, c3, c4, c5, c6, c7] + dg [c0, c1, c2, c3, c4, c5, c6, c7] >>> 4) &&& 1085102592571150095 = dg [c0 / 16 + c0 % 16, c1 / 16 + c1 % 16, c2 / 16 + c2 % 16, c3 / 16 + c3 % 16, c4 / 16 + c4 % 16, c5 / 16 + c5 % 16, c6 / 16 + c6 % 16, c7 / 16 + c7 % 16] := by
  have e : dg [c0, c1, c2, c3, c4, c5, c6, c7] + dg [c0, c1, c2, c3, c4, c5, c6, c7] >>> 4 = dg [c0 + c0 / 16 + 16 * (c1 % 16), c1 + c1 / 16 + 16 * (c2 % 16), c2 + c2 / 16 + 16 * (c3 % 16), c3 + c3 / 16 + 16 * (c4 % 16), c4 + c4 / 16 + 16 * (c5 % 16), c5 + c5 / 16 + 16 * (c6 % 16), c6 + c6 / 16 + 16 * (c7 % 16), c7 + c7 / 16] := by
    rw [Nat.shiftRight_eq_div_pow]
    simp only [dg]
    omega
  have m := dg_msk (k := 0) (m0 := 15) (by decide) (by decide) [c0 + c0 / 16 + 16 * (c1 % 16), c1 + c1 / 16 + 16 * (c2 % 16), c2 + c2 / 16 + 16 * (c3 % 16), c3 + c3 / 16 + 16 * (c4 % 16), c4 + c4 / 16 + 16 * (c5 % 16), c5 + c5 / 16 + 16 * (c6 % 16), c6 + c6 / 16 + 16 * (c7 % 16), c7 + c7 / 16] (by
    intro a ha
    simp only [List.mem_cons, List.not_mem_nil, or_false] at ha
    omega)
  rw [Nat.shiftRight_zero] at m
  have d : ∀ x : Nat, x >>> 0 &&& 15 = x % 16 := fun x => Nat.and_two_pow_sub_one_eq_mod x 4
  rw [e]
  simp only [List.map_cons, List.map_nil, d] at m
  rw [show dg [15, 15, 15, 15, 15, 15, 15, 15] = 1085102592571150095 by decide] at m
  rw [m]
  congr 1
  simp only [List.cons.injEq, and_true]
  omega
theorem dg_st4 {e0 e1 e2 e3 e4 e5 e6 e7 x y z : Nat} (h : e0 ≤ 8 ∧ e1 ≤ 8 ∧ e2 ≤ 8 ∧ e3 ≤ 8 ∧ e4 ≤ 8 ∧ e5 ≤ 8 ∧ e6 ≤ 8 ∧ e7 ≤ 8) (hx : x = dg [e0, e1, e2, e3, e4, e5, e6, e7] + dg [e0, e1, e2, e3, e4, e5, e6, e7] >>> 8) (hy : y = x + x >>> 16) (hz : z = y + y >>> 32) : z % 128 = e0 + e1 + e2 + e3 + e4 + e5 + e6 + e7 ∧ x < 1000000000000000000 ∧ y < 1200000000000000000 ∧ z < 1400000000000000000 := by
  have hx2 : x = dg [e0 + e1, e1 + e2, e2 + e3, e3 + e4, e4 + e5, e5 + e6, e6 + e7, e7] := by
    rw [hx, Nat.shiftRight_eq_div_pow]
    simp only [dg]
    omega
  have hy2 : y = dg [e0 + e1 + e2 + e3, e1 + e2 + e3 + e4, e2 + e3 + e4 + e5, e3 + e4 + e5 + e6, e4 + e5 + e6 + e7, e5 + e6 + e7, e6 + e7, e7] := by
    rw [hy, hx2, Nat.shiftRight_eq_div_pow]
    simp only [dg]
    omega
  have hz2 : z = dg [e0 + e1 + e2 + e3 + e4 + e5 + e6 + e7, e1 + e2 + e3 + e4 + e5 + e6 + e7, e2 + e3 + e4 + e5 + e6 + e7, e3 + e4 + e5 + e6 + e7, e4 + e5 + e6 + e7, e5 + e6 + e7, e6 + e7, e7] := by
    rw [hz, hy2, Nat.shiftRight_eq_div_pow]
    simp only [dg]
    omega
  rw [hx2, hy2, hz2]
  simp only [dg]
  omega
theorem dg_all {Z : Nat} (h : Z < 281474976710656) {x1 x2 x3 x4 x5 x6 : Nat} (h1 : x1 = Z - ((Z >>> 1) &&& 6148914691236517205)) (h2 : x2 = (x1 &&& 3689348814741910323) + ((x1 >>> 2) &&& 3689348814741910323)) (h3 : x3 = (x2 + x2 >>> 4) &&& 1085102592571150095) (h4 : x4 = x3 + x3 >>> 8) (h5 : x5 = x4 + x4 >>> 16) (h6 : x6 = x5 + x5 >>> 32) : x6 % 128 = cntB (fun i => Z.testBit i) 48 ∧ ((Z >>> 1) &&& 6148914691236517205 ≤ Z ∧ x1 ≤ Z) ∧ x2 < 9000000000000000000 ∧ x3 < 9000000000000000000 ∧ x4 < 1000000000000000000 ∧ x5 < 1200000000000000000 ∧ x6 < 1400000000000000000 := by
  have hl := by8_lt Z
  have hd := by8_dg h
  have q := fun (a : Nat) (ha : a < 256) => b_chk ⟨a, ha⟩
  have m1 := dg_msk (k := 1) (m0 := 85) (by decide) (by decide) (by8 Z) hl
  rw [hd, show dg ((by8 Z).map fun _ => 85) = 6148914691236517205 from (by show dg [85, 85, 85, 85, 85, 85, 85, 85] = _; decide)] at m1
  have s1 := dg_sub (f := fun a => a) (g := fun a => (a >>> 1) &&& 85) b1_le (by8 Z)
  rw [List.map_id', hd, ← m1] at s1
  have e1 : x1 = dg ((by8 Z).map b1) := h1.trans s1.1
  have l1 : ∀ a ∈ (by8 Z).map b1, a < 256 := by
    intro a ha
    obtain ⟨x, hx, rfl⟩ := List.mem_map.mp ha
    exact (q x (hl x hx)).1
  have s2 := dg_st2 _ l1
  rw [← e1, List.map_map, List.map_map] at s2
  have e2 : x2 = dg ((by8 Z).map b2) := by
    rw [h2]
    refine Eq.trans ?_ s2
    rw [show dg ((by8 Z).map ((fun _ => 51) ∘ b1)) = 3689348814741910323 from (by show dg [51, 51, 51, 51, 51, 51, 51, 51] = _; decide)]
  have r2 : ∀ a, a < 256 → b2 a ≤ 102 ∧ b2 a % 16 ≤ 6 := fun a ha => ⟨(q a ha).2.1, (q a ha).2.2.1⟩
  have mem := hl
  unfold by8 at mem
  simp only [List.mem_cons, List.not_mem_nil, or_false] at mem
  have s3 := dg_st3 (r2 _ (mem _ (Or.inl rfl))) (r2 _ (mem _ (Or.inr (Or.inl rfl)))) (r2 _ (mem _ (Or.inr (Or.inr (Or.inl rfl))))) (r2 _ (mem _ (Or.inr (Or.inr (Or.inr (Or.inl rfl)))))) (r2 _ (mem _ (Or.inr (Or.inr (Or.inr (Or.inr (Or.inl rfl))))))) (r2 _ (mem _ (Or.inr (Or.inr (Or.inr (Or.inr (Or.inr (Or.inl rfl)))))))) (r2 0 (by decide)) (r2 0 (by decide))
  have e3 : x3 = dg ((by8 Z).map b3) := by
    rw [h3, e2]
    exact s3
  have r3 : ∀ a, a < 256 → b3 a ≤ 8 := fun a ha => (q a ha).2.2.2.2
  have s4 := dg_st4 (x := x4) (y := x5) (z := x6) (e0 := b3 (Z % 256)) (e1 := b3 (Z / 256 % 256)) (e2 := b3 (Z / 65536 % 256)) (e3 := b3 (Z / 16777216 % 256)) (e4 := b3 (Z / 4294967296 % 256)) (e5 := b3 (Z / 1099511627776 % 256)) (e6 := b3 0) (e7 := b3 0) ⟨r3 _ (by omega), r3 _ (by omega), r3 _ (by omega), r3 _ (by omega), r3 _ (by omega), r3 _ (by omega), r3 _ (by omega), r3 _ (by omega)⟩ (by rw [h4, e3]; rfl) h5 h6
  have cn := dg_cnt (by8 Z) hl
  rw [hd] at cn
  have pad : cntB (fun i => Z.testBit i) 64 = cntB (fun i => Z.testBit i) 48 := by
    have z : ∀ k, 48 ≤ k → cntB (fun i => Z.testBit i) k = cntB (fun i => Z.testBit i) 48 := by
      intro k hk
      induction k with
      | zero => omega
      | succ k ih =>
        by_cases hk2 : k + 1 = 48
        · rw [hk2]
        · show cntB (fun i => Z.testBit i) k + (if Z.testBit k = true then 1 else 0) = _
          rw [ih (by omega), Nat.testBit_lt_two_pow (Nat.lt_of_lt_of_le h (Nat.pow_le_pow_right (n := 2) (by decide) (show 48 ≤ k by omega)))]
          simp
    exact z 64 (by decide)
  have q3 : ∀ a, a < 256 → b3 a = cntB (fun i => a.testBit i) 8 := fun a ha => (q a ha).2.2.2.1
  have tot : b3 (Z % 256) + b3 (Z / 256 % 256) + b3 (Z / 65536 % 256) + b3 (Z / 16777216 % 256) + b3 (Z / 4294967296 % 256) + b3 (Z / 1099511627776 % 256) + b3 0 + b3 0 = cntB (fun i => Z.testBit i) 48 := by
    rw [← pad]
    refine Eq.trans ?_ cn.symm
    rw [q3 _ (show Z % 256 < 256 by omega), q3 _ (show Z / 256 % 256 < 256 by omega), q3 _ (show Z / 65536 % 256 < 256 by omega), q3 _ (show Z / 16777216 % 256 < 256 by omega), q3 _ (show Z / 4294967296 % 256 < 256 by omega), q3 _ (show Z / 1099511627776 % 256 < 256 by omega), q3 0 (by decide)]
    unfold by8
    simp only [List.map_cons, List.map_nil, List.sum_cons, List.sum_nil]
    omega
  have bd : ∀ f : Nat → Nat, (∀ a, a < 256 → f a ≤ 102) → dg ((by8 Z).map f) < 9000000000000000000 := by
    intro f hf
    have a0 := hf _ (show Z % 256 < 256 by omega)
    have a1 := hf _ (show Z / 256 % 256 < 256 by omega)
    have a2 := hf _ (show Z / 65536 % 256 < 256 by omega)
    have a3 := hf _ (show Z / 16777216 % 256 < 256 by omega)
    have a4 := hf _ (show Z / 4294967296 % 256 < 256 by omega)
    have a5 := hf _ (show Z / 1099511627776 % 256 < 256 by omega)
    have a6 := hf 0 (by decide)
    unfold by8
    simp only [List.map_cons, List.map_nil, dg]
    omega
  refine ⟨s4.1.trans tot, ⟨s1.2, by omega⟩, by rw [e2]; exact bd b2 (fun a ha => (r2 a ha).1), by rw [e3]; exact bd b3 (fun a ha => Nat.le_trans (r3 a ha) (by decide)), s4.2.1, s4.2.2.1, s4.2.2.2⟩
theorem dJ13_bitCount_95d88_0 : decode cJ13_bitCount_95d88 0 = .ok (.lload_n 0, 1) := by decide +kernel
theorem dJ13_bitCount_95d88_1 : decode cJ13_bitCount_95d88 1 = .ok (.lload_n 0, 1) := by decide +kernel
theorem dJ13_bitCount_95d88_2 : decode cJ13_bitCount_95d88 2 = .ok (.iconst 1, 1) := by decide +kernel
theorem dJ13_bitCount_95d88_3 : decode cJ13_bitCount_95d88 3 = .ok (.lushr, 1) := by decide +kernel
theorem dJ13_bitCount_95d88_4 : decode cJ13_bitCount_95d88 4 = .ok (.ldc2_w 314, 3) := by decide +kernel
theorem dJ13_bitCount_95d88_7 : decode cJ13_bitCount_95d88 7 = .ok (.land, 1) := by decide +kernel
theorem dJ13_bitCount_95d88_8 : decode cJ13_bitCount_95d88 8 = .ok (.lsub, 1) := by decide +kernel
theorem dJ13_bitCount_95d88_9 : decode cJ13_bitCount_95d88 9 = .ok (.lstore_n 0, 1) := by decide +kernel
theorem dJ13_bitCount_95d88_10 : decode cJ13_bitCount_95d88 10 = .ok (.lload_n 0, 1) := by decide +kernel
theorem dJ13_bitCount_95d88_11 : decode cJ13_bitCount_95d88 11 = .ok (.ldc2_w 316, 3) := by decide +kernel
theorem dJ13_bitCount_95d88_14 : decode cJ13_bitCount_95d88 14 = .ok (.land, 1) := by decide +kernel
theorem dJ13_bitCount_95d88_15 : decode cJ13_bitCount_95d88 15 = .ok (.lload_n 0, 1) := by decide +kernel
theorem dJ13_bitCount_95d88_16 : decode cJ13_bitCount_95d88 16 = .ok (.iconst 2, 1) := by decide +kernel
theorem dJ13_bitCount_95d88_17 : decode cJ13_bitCount_95d88 17 = .ok (.lushr, 1) := by decide +kernel
theorem dJ13_bitCount_95d88_18 : decode cJ13_bitCount_95d88 18 = .ok (.ldc2_w 316, 3) := by decide +kernel
theorem dJ13_bitCount_95d88_21 : decode cJ13_bitCount_95d88 21 = .ok (.land, 1) := by decide +kernel
theorem dJ13_bitCount_95d88_22 : decode cJ13_bitCount_95d88 22 = .ok (.ladd, 1) := by decide +kernel
theorem dJ13_bitCount_95d88_23 : decode cJ13_bitCount_95d88 23 = .ok (.lstore_n 0, 1) := by decide +kernel
theorem dJ13_bitCount_95d88_24 : decode cJ13_bitCount_95d88 24 = .ok (.lload_n 0, 1) := by decide +kernel
theorem dJ13_bitCount_95d88_25 : decode cJ13_bitCount_95d88 25 = .ok (.lload_n 0, 1) := by decide +kernel
theorem dJ13_bitCount_95d88_26 : decode cJ13_bitCount_95d88 26 = .ok (.iconst 4, 1) := by decide +kernel
theorem dJ13_bitCount_95d88_27 : decode cJ13_bitCount_95d88 27 = .ok (.lushr, 1) := by decide +kernel
theorem dJ13_bitCount_95d88_28 : decode cJ13_bitCount_95d88 28 = .ok (.ladd, 1) := by decide +kernel
theorem dJ13_bitCount_95d88_29 : decode cJ13_bitCount_95d88 29 = .ok (.ldc2_w 318, 3) := by decide +kernel
theorem dJ13_bitCount_95d88_32 : decode cJ13_bitCount_95d88 32 = .ok (.land, 1) := by decide +kernel
theorem dJ13_bitCount_95d88_33 : decode cJ13_bitCount_95d88 33 = .ok (.lstore_n 0, 1) := by decide +kernel
theorem dJ13_bitCount_95d88_34 : decode cJ13_bitCount_95d88 34 = .ok (.lload_n 0, 1) := by decide +kernel
theorem dJ13_bitCount_95d88_35 : decode cJ13_bitCount_95d88 35 = .ok (.lload_n 0, 1) := by decide +kernel
theorem dJ13_bitCount_95d88_36 : decode cJ13_bitCount_95d88 36 = .ok (.bipush 8, 2) := by decide +kernel
theorem dJ13_bitCount_95d88_38 : decode cJ13_bitCount_95d88 38 = .ok (.lushr, 1) := by decide +kernel
theorem dJ13_bitCount_95d88_39 : decode cJ13_bitCount_95d88 39 = .ok (.ladd, 1) := by decide +kernel
theorem dJ13_bitCount_95d88_40 : decode cJ13_bitCount_95d88 40 = .ok (.lstore_n 0, 1) := by decide +kernel
theorem dJ13_bitCount_95d88_41 : decode cJ13_bitCount_95d88 41 = .ok (.lload_n 0, 1) := by decide +kernel
theorem dJ13_bitCount_95d88_42 : decode cJ13_bitCount_95d88 42 = .ok (.lload_n 0, 1) := by decide +kernel
theorem dJ13_bitCount_95d88_43 : decode cJ13_bitCount_95d88 43 = .ok (.bipush 16, 2) := by decide +kernel
theorem dJ13_bitCount_95d88_45 : decode cJ13_bitCount_95d88 45 = .ok (.lushr, 1) := by decide +kernel
theorem dJ13_bitCount_95d88_46 : decode cJ13_bitCount_95d88 46 = .ok (.ladd, 1) := by decide +kernel
theorem dJ13_bitCount_95d88_47 : decode cJ13_bitCount_95d88 47 = .ok (.lstore_n 0, 1) := by decide +kernel
theorem dJ13_bitCount_95d88_48 : decode cJ13_bitCount_95d88 48 = .ok (.lload_n 0, 1) := by decide +kernel
theorem dJ13_bitCount_95d88_49 : decode cJ13_bitCount_95d88 49 = .ok (.lload_n 0, 1) := by decide +kernel
theorem dJ13_bitCount_95d88_50 : decode cJ13_bitCount_95d88 50 = .ok (.bipush 32, 2) := by decide +kernel
theorem dJ13_bitCount_95d88_52 : decode cJ13_bitCount_95d88 52 = .ok (.lushr, 1) := by decide +kernel
theorem dJ13_bitCount_95d88_53 : decode cJ13_bitCount_95d88 53 = .ok (.ladd, 1) := by decide +kernel
theorem dJ13_bitCount_95d88_54 : decode cJ13_bitCount_95d88 54 = .ok (.lstore_n 0, 1) := by decide +kernel
theorem dJ13_bitCount_95d88_55 : decode cJ13_bitCount_95d88 55 = .ok (.lload_n 0, 1) := by decide +kernel
theorem dJ13_bitCount_95d88_56 : decode cJ13_bitCount_95d88 56 = .ok (.l2i, 1) := by decide +kernel
theorem dJ13_bitCount_95d88_57 : decode cJ13_bitCount_95d88 57 = .ok (.bipush 127, 2) := by decide +kernel
theorem dJ13_bitCount_95d88_59 : decode cJ13_bitCount_95d88 59 = .ok (.iand, 1) := by decide +kernel
theorem dJ13_bitCount_95d88_60 : decode cJ13_bitCount_95d88 60 = .ok (.ireturn, 1) := by decide +kernel
section
variable (d : Nat) (sh : mbSh) (ct : mbCt)
theorem c_bitCountL {Z : Nat} (h : Z < 281474976710656) : Mt YJ13_bitCount_95d88 d [.inr (.inl (Z : Int))] sh sh ct (pI fun r c => r = ((cntB (fun i => Z.testBit i) 48 : Nat) : Int) ∧ c = ct) := by
  obtain ⟨x1, h1⟩ : ∃ x1, x1 = Z - ((Z >>> 1) &&& 6148914691236517205) := ⟨_, rfl⟩
  obtain ⟨x2, h2⟩ : ∃ x2, x2 = (x1 &&& 3689348814741910323) + ((x1 >>> 2) &&& 3689348814741910323) := ⟨_, rfl⟩
  obtain ⟨x3, h3⟩ : ∃ x3, x3 = (x2 + x2 >>> 4) &&& 1085102592571150095 := ⟨_, rfl⟩
  obtain ⟨x4, h4⟩ : ∃ x4, x4 = x3 + x3 >>> 8 := ⟨_, rfl⟩
  obtain ⟨x5, h5⟩ : ∃ x5, x5 = x4 + x4 >>> 16 := ⟨_, rfl⟩
  obtain ⟨x6, h6⟩ : ∃ x6, x6 = x5 + x5 >>> 32 := ⟨_, rfl⟩
  obtain ⟨a1, ⟨a2, a3⟩, a4, a5, a6, a7, a8⟩ := dg_all h h1 h2 h3 h4 h5 h6
  have sle : ∀ (x k : Nat), x >>> k ≤ x := fun x k => by rw [Nat.shiftRight_eq_div_pow]; exact Nat.div_le_self _ _
  have q1 := sle Z 1
  have q2 := sle x1 2
  have q3 := sle x2 4
  have q4 := sle x3 8
  have q5 := sle x4 16
  have q6 := sle x5 32
  have e1 : (Z : Int) - andL (ushL Z 1) 6148914691236517205 = (x1 : Int) := by
    have u := ush_nat (a := Z) (k := 1) (by omega) (by decide)
    have v := and_nat (a := Z >>> 1) (b := 6148914691236517205) (by omega) (by decide)
    rw [show ((1 : Nat) : Int) = 1 from rfl] at u
    rw [show ((6148914691236517205 : Nat) : Int) = 6148914691236517205 from rfl] at v
    rw [u, v]
    omega
  have e2 : andL x1 3689348814741910323 + andL (ushL x1 2) 3689348814741910323 = (x2 : Int) := by
    have u := ush_nat (a := x1) (k := 2) (by omega) (by decide)
    have v := and_nat (a := x1 >>> 2) (b := 3689348814741910323) (by omega) (by decide)
    have w := and_nat (a := x1) (b := 3689348814741910323) (by omega) (by decide)
    rw [show ((2 : Nat) : Int) = 2 from rfl] at u
    rw [show ((3689348814741910323 : Nat) : Int) = 3689348814741910323 from rfl] at v w
    rw [u, v, w, h2]
    simp
  have e3 : andL ((x2 : Int) + ushL x2 4) 1085102592571150095 = (x3 : Int) := by
    have u := ush_nat (a := x2) (k := 4) (by omega) (by decide)
    have v := and_nat (a := x2 + x2 >>> 4) (b := 1085102592571150095) (by omega) (by decide)
    rw [show ((4 : Nat) : Int) = 4 from rfl] at u
    rw [show ((1085102592571150095 : Nat) : Int) = 1085102592571150095 from rfl] at v
    rw [u, h3, ← v]
    simp
  have sh' : ∀ (x k : Nat), x < 18446744073709551616 → k < 64 → (x : Int) + ushL x k = ((x + x >>> k : Nat) : Int) := by
    intro x k hx hk
    rw [ush_nat hx hk]
    simp
  have e4 : (x3 : Int) + ushL x3 8 = (x4 : Int) := by
    rw [h4]
    exact sh' x3 8 (by omega) (by decide)
  have e5 : (x4 : Int) + ushL x4 16 = (x5 : Int) := by
    rw [h5]
    exact sh' x4 16 (by omega) (by decide)
  have e6 : (x5 : Int) + ushL x5 32 = (x6 : Int) := by
    rw [h6]
    exact sh' x5 32 (by omega) (by decide)
  have e7 : andI x6 127 = ((cntB (fun i => Z.testBit i) 48 : Nat) : Int) := by
    unfold andI
    rw [show ((x6 : Int) % 4294967296).toNat = x6 % 4294967296 by omega, show ((127 : Int) % 4294967296).toNat = 2 ^ 7 - 1 from rfl, Nat.and_two_pow_sub_one_eq_mod, ← a1]
    omega
  refine Mt.of rfl (Nat.le_of_ble_eq_true rfl) ?_
  show G _ 0 [some (.inr (.inl (Z : Int))), none] [] sh ct
  refine g_lload_n (q := 1) dJ13_bitCount_95d88_0 rfl rfl ?_
  refine g_lload_n (q := 2) dJ13_bitCount_95d88_1 rfl rfl ?_
  refine g_iconst (q := 3) dJ13_bitCount_95d88_2 rfl ?_
  refine g_lushr (q := 4) dJ13_bitCount_95d88_3 rfl ?_
  refine g_ldc2 (q := 7) dJ13_bitCount_95d88_4 kJ13_314 rfl ?_
  refine g_land (q := 8) dJ13_bitCount_95d88_7 rfl ?_
  refine g_lsub (q := 9) dJ13_bitCount_95d88_8 rfl ?_
  rw [e1]
  refine s_lstore_n_2_0 (q := 10) dJ13_bitCount_95d88_9 rfl rfl rfl ?_
  refine g_lload_n (q := 11) dJ13_bitCount_95d88_10 rfl rfl ?_
  refine g_ldc2 (q := 14) dJ13_bitCount_95d88_11 kJ13_316 rfl ?_
  refine g_land (q := 15) dJ13_bitCount_95d88_14 rfl ?_
  refine g_lload_n (q := 16) dJ13_bitCount_95d88_15 rfl rfl ?_
  refine g_iconst (q := 17) dJ13_bitCount_95d88_16 rfl ?_
  refine g_lushr (q := 18) dJ13_bitCount_95d88_17 rfl ?_
  refine g_ldc2 (q := 21) dJ13_bitCount_95d88_18 kJ13_316 rfl ?_
  refine g_land (q := 22) dJ13_bitCount_95d88_21 rfl ?_
  refine g_ladd (q := 23) dJ13_bitCount_95d88_22 rfl ?_
  rw [e2]
  refine s_lstore_n_2_0 (q := 24) dJ13_bitCount_95d88_23 rfl rfl rfl ?_
  refine g_lload_n (q := 25) dJ13_bitCount_95d88_24 rfl rfl ?_
  refine g_lload_n (q := 26) dJ13_bitCount_95d88_25 rfl rfl ?_
  refine g_iconst (q := 27) dJ13_bitCount_95d88_26 rfl ?_
  refine g_lushr (q := 28) dJ13_bitCount_95d88_27 rfl ?_
  refine g_ladd (q := 29) dJ13_bitCount_95d88_28 rfl ?_
  refine g_ldc2 (q := 32) dJ13_bitCount_95d88_29 kJ13_318 rfl ?_
  refine g_land (q := 33) dJ13_bitCount_95d88_32 rfl ?_
  rw [e3]
  refine s_lstore_n_2_0 (q := 34) dJ13_bitCount_95d88_33 rfl rfl rfl ?_
  refine g_lload_n (q := 35) dJ13_bitCount_95d88_34 rfl rfl ?_
  refine g_lload_n (q := 36) dJ13_bitCount_95d88_35 rfl rfl ?_
  refine g_bipush (q := 38) dJ13_bitCount_95d88_36 (by decide +kernel) rfl ?_
  refine g_lushr (q := 39) dJ13_bitCount_95d88_38 rfl ?_
  refine g_ladd (q := 40) dJ13_bitCount_95d88_39 rfl ?_
  rw [e4]
  refine s_lstore_n_2_0 (q := 41) dJ13_bitCount_95d88_40 rfl rfl rfl ?_
  refine g_lload_n (q := 42) dJ13_bitCount_95d88_41 rfl rfl ?_
  refine g_lload_n (q := 43) dJ13_bitCount_95d88_42 rfl rfl ?_
  refine g_bipush (q := 45) dJ13_bitCount_95d88_43 (by decide +kernel) rfl ?_
  refine g_lushr (q := 46) dJ13_bitCount_95d88_45 rfl ?_
  refine g_ladd (q := 47) dJ13_bitCount_95d88_46 rfl ?_
  rw [e5]
  refine s_lstore_n_2_0 (q := 48) dJ13_bitCount_95d88_47 rfl rfl rfl ?_
  refine g_lload_n (q := 49) dJ13_bitCount_95d88_48 rfl rfl ?_
  refine g_lload_n (q := 50) dJ13_bitCount_95d88_49 rfl rfl ?_
  refine g_bipush (q := 52) dJ13_bitCount_95d88_50 (by decide +kernel) rfl ?_
  refine g_lushr (q := 53) dJ13_bitCount_95d88_52 rfl ?_
  refine g_ladd (q := 54) dJ13_bitCount_95d88_53 rfl ?_
  rw [e6]
  refine s_lstore_n_2_0 (q := 55) dJ13_bitCount_95d88_54 rfl rfl rfl ?_
  refine g_lload_n (q := 56) dJ13_bitCount_95d88_55 rfl rfl ?_
  refine g_l2i (q := 57) dJ13_bitCount_95d88_56 rfl ?_
  refine g_bipush (q := 59) dJ13_bitCount_95d88_57 (by decide +kernel) rfl ?_
  refine g_iand (q := 60) dJ13_bitCount_95d88_59 rfl ?_
  rw [e7]
  refine g_ireturn dJ13_bitCount_95d88_60 rfl ?_
  exact ⟨_, rfl, rfl, rfl⟩
end
