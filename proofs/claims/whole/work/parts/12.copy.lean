/-! System.arraycopy among rows of numbers -/
theorem tb_cpN : Cond.native arraycopyName ∈ mbTB := mb_tb 729 (by decide +kernel) rfl
theorem tb_cpS : Cond.static arraycopyName ∈ mbTB := mb_tb 728 (by decide +kernel) rfl
theorem tb_cpI : Cond.initialized "java/lang/System" ∈ mbTB := mb_tb 21 (by decide +kernel) rfl
def cpF (f g : Int → Int) (sp dp n : Int) : Int → Int := fun j => if dp ≤ j ∧ j < dp + n then f (sp + (j - dp)) else g j
section MBcopy
variable {K : mbK} {pc q idx : Nat} {ls : List (Option gV)} {st : List gV} {sh : mbSh} {ct : mbCt}
theorem g_copy {src dst sp dp n : Int} {kd n0 n1 : Nat} (hl : Cond.methodLink K.1.1.cls idx arraycopyName ∈ mbTB) (hs : shA sh src = some (kd, n0)) (ht : shA sh dst = some (kd, n1)) (h20 : 20 ≤ kd) (h25 : kd < 25) (hsp : 0 ≤ sp) (hdp : 0 ≤ dp) (hn : 0 ≤ n) (h4 : sp + n ≤ n0) (h5 : dp + n ≤ n1) (hb0 : n0 < 2147483648) (hb1 : n1 < 2147483648) (hfit : ∀ (E : mbE) (i : Int), 0 ≤ i → i < n → fits (aty kd) (fv E (aty kd) (ct src (sp + i))) = true) (hR : rmOk K 0 sh) (hst : (st.map gcat).sum ≤ 8) (hd : decode K.1.2.1 pc = .ok (.invokestatic idx, 3)) (hq : pc + 3 = q) (k : G K q ls st sh (wa ct dst (cpF (ct src) (ct dst) sp dp n))) : G K pc ls (.inl n :: .inl dp :: .inr (.inr dst) :: .inl sp :: .inr (.inr src) :: st) sh ct := by
  subst hq
  intro p l e s m args below meth c E C H locs lsv R
  obtain ⟨j0, rfl, hj0⟩ := shA_some hs
  obtain ⟨j1, rfl, hj1⟩ := shA_some ht
  obtain ⟨h28, hc0⟩ := R.1.arr hj0 h20
  obtain ⟨-, hc1⟩ := R.1.arr hj1 h20
  have hA := (mb_arr C.si.1 h20 h28).1
  have cl : ∀ z : Int, 0 ≤ z → z < 2147483648 → ¬ Int32.ofInt z < 0 ∧ (Int32.ofInt z).toNatClampNeg = z.toNat ∧ (Int32.ofInt z).toInt = z := by
    intro z h1 h2
    have hw : w32 z = z := w32_id (by omega) h2
    refine ⟨fun h => ?_, ?_, by rw [mb_ti, hw]⟩
    · rw [Int32.lt_iff_toInt_lt, mb_ti, hw] at h
      have : (0 : Int32).toInt = 0 := rfl
      omega
    · show (Int32.ofInt z).toInt.toNat = _
      rw [mb_ti, hw]
  obtain ⟨s1, s2, s3⟩ := cl sp hsp (by omega)
  obtain ⟨d1, d2, d3⟩ := cl dp hdp (by omega)
  obtain ⟨t1, t2, t3⟩ := cl n hn (by omega)
  have hprim : refKind (aty kd) = false := by
    rcases (show kd = 20 ∨ kd = 21 ∨ kd = 22 ∨ kd = 23 ∨ kd = 24 by omega) with rfl | rfl | rfl | rfl | rfl <;> rfl
  have htv : ∀ z : Int, ¬ (fv E (aty kd) z = .null) := by
    intro z
    rcases (show kd = 20 ∨ kd = 21 ∨ kd = 22 ∨ kd = 23 ∨ kd = 24 by omega) with rfl | rfl | rfl | rfl | rfl <;> exact fun h => by cases h
  have hr : ∀ z : Int, (∃ y, fv E (aty kd) z = .int y) ∨ ∃ y, fv E (aty kd) z = .long y := by
    intro z
    rcases (show kd = 20 ∨ kd = 21 ∨ kd = 22 ∨ kd = 23 ∨ kd = 24 by omega) with rfl | rfl | rfl | rfl | rfl
    · exact Or.inl ⟨_, rfl⟩
    · exact Or.inr ⟨_, rfl⟩
    · exact Or.inl ⟨_, rfl⟩
    · exact Or.inl ⟨_, rfl⟩
    · exact Or.inl ⟨_, rfl⟩
  show W p l e _ s m args below meth c H locs _ _ _ (F0 m pc lsv (.int (Int32.ofInt n) :: .int (Int32.ofInt dp) :: rvE E j1 :: .int (Int32.ofInt sp) :: rvE E j0 :: st.map (tv E)))
  rw [rv_nat, rv_nat]
  intro T hT X
  obtain ⟨-, k0, hk0, cm0, hkk0⟩ := hA n0 (fun j => fv E (aty kd) (ct j0 j))
  obtain ⟨-, k1, hk1, cm1, hkk1⟩ := hA n1 (fun j => fv E (aty kd) (ct j1 j))
  have h2 := hR.2.1
  obtain ⟨vm', X', step⟩ := X.arraycopy C.1 C.own (C.tb _ hl) (C.tb _ tb_cpN) (C.tb _ tb_cpS) (C.tb _ tb_cpI) (src := E.2.2.1 + j0) (dst := E.2.2.1 + j1) (srcPos := Int32.ofInt sp) (destPos := Int32.ofInt dp) (n := Int32.ofInt n) (by rw [hT]; exact hc0) (by rw [hT]; exact hc1)
    (fun _ h => by cases h) (fun _ h => by cases h) (fun h => by cases h) (fun h => by cases h) hk0 hk1 hkk0 hkk1 (by simp [hprim]) s1 d1 t1
    (by rw [s3, t3, arrV_size]; omega)
    (by rw [d3, t3, arrV_size]; omega)
    (fun vm₁ _ i hi => by
      rw [t2] at hi
      have e : (arrV (E.2.1 kd) n0 (fun j => fv E (aty kd) (ct j0 j))).slots.getD ((Int32.ofInt sp).toNatClampNeg + i) .null = fv E (aty kd) (ct j0 (sp + i)) := by
        rw [s2, Array.getD_eq_getD_getElem?, arrV_read _ _ (by omega)]
        show fv E (aty kd) (ct j0 ((sp.toNat + i : Nat) : Int)) = _
        have : ((sp.toNat + i : Nat) : Int) = sp + i := by omega
        rw [this]
      refine ⟨?_, ?_⟩
      · rw [e]
        exact hfit E i (by omega) (by omega)
      · rw [e]
        rcases hr (ct j0 (sp + i)) with ⟨y, hy⟩ | ⟨y, hy⟩ <;> rw [hy] <;> exact trivial)
    (g := F0 m pc lsv (.int (Int32.ofInt n) :: .int (Int32.ofInt dp) :: .ref (E.2.2.1 + j1) :: .int (Int32.ofInt sp) :: .ref (E.2.2.1 + j0) :: st.map (tv E))) rfl (R.2.2.2.1.1.trans C.2.2.1.symm) (rest := st.map (tv E)) rfl (by rw [C.2.1]; exact hd) hR.1 (by
      show 2 * 0 + _ + _ ≤ _
      rw [mb_cats]
      have : nativeFrameWords "java/lang/System" "arraycopy" 5 + 11 ≤ 40 := by decide +kernel
      omega)
  have e1 : copied (arrV (E.2.1 kd) n0 (fun j => fv E (aty kd) (ct j0 j))) (arrV (E.2.1 kd) n1 (fun j => fv E (aty kd) (ct j1 j))) (Int32.ofInt sp) (Int32.ofInt dp) (Int32.ofInt n) = arrV (E.2.1 kd) n1 (fun j => fv E (aty kd) (va_cpy (fun t : Nat => ct j0 t) (fun t : Nat => ct j1 t) (Int32.ofInt sp).toNatClampNeg (Int32.ofInt dp).toNatClampNeg (Int32.ofInt n).toNatClampNeg j)) := va_copied (fun z => fv E (aty kd) z) (E.2.1 kd) (E.2.1 kd) (fun t : Nat => ct j0 t) (fun t : Nat => ct j1 t) (by rw [s2, t2]; omega)
  rw [e1, s2, d2, t2] at X' step
  have hl1 : E.2.2.1 + j1 < H.size := R.1.lt hj1
  have hcell : cellOk E kd n1 (wa ct j1 (cpF (ct j0) (ct j1) sp dp n) j1) (E.2.2.1 + j1) (H.setIfInBounds (E.2.2.1 + j1) (arrV (E.2.1 kd) n1 (fun j => fv E (aty kd) (va_cpy (fun t : Nat => ct j0 t) (fun t : Nat => ct j1 t) sp.toNat dp.toNat n.toNat j)))) := by
    refine Or.inr ⟨h20, h28, ?_⟩
    simp only [Array.getElem?_setIfInBounds, hl1, if_true]
    refine congrArg some (congrArg (arrV (E.2.1 kd) n1) (funext fun j => congrArg (fv E (aty kd)) ?_))
    show va_cpy _ _ _ _ _ j = wa ct j1 _ j1 j
    rw [wa, if_pos rfl]
    unfold va_cpy cpF
    by_cases hj : dp.toNat ≤ j ∧ j < dp.toNat + n.toNat
    · rw [if_pos hj, if_pos (by omega)]
      show ct j0 ((sp.toNat + (j - dp.toNat) : Nat) : Int) = _
      have : ((sp.toNat + (j - dp.toNat) : Nat) : Int) = sp + ((j : Int) - dp) := by omega
      rw [this]
    · rw [if_neg hj, if_neg (by omega)]
  have hheap : ((T.setVm vm').setCell (E.2.2.1 + j1) (arrV (E.2.1 kd) n1 (fun j => fv E (aty kd) (va_cpy (fun t : Nat => ct j0 t) (fun t : Nat => ct j1 t) sp.toNat dp.toNat n.toNat j)))).heap = H.setIfInBounds (E.2.2.1 + j1) (arrV (E.2.1 kd) n1 (fun j => fv E (aty kd) (va_cpy (fun t : Nat => ct j0 t) (fun t : Nat => ct j1 t) sp.toNat dp.toNat n.toNat j))) := by rw [← hT]; rfl
  have R' := fun (L : List Loc) (hL : ∀ q ∈ L, E.2.2.1 ≤ q.base) => R.set (locs1 := L) hj1 (by simp) (fun q hq => by simp [Array.getElem?_setIfInBounds, Ne.symm hq]) hcell (wa_other ct _ _) hL
  have XX := X'
  obtain ⟨t, a1, b1⟩ := k p l e s m args below meth c E C _ _ lsv (R' _ (fun q hq => by
    rcases List.mem_append.mp hq with h | h
    · exact R.2.2.1 q h
    · obtain ⟨z, -, hz⟩ := List.mem_map.mp h
      rw [← hz]
      exact Nat.le_add_right _ _)) _ hheap XX
  exact ⟨t, step t a1, b1⟩
end MBcopy
theorem tb_mI : Cond.initialized "java/lang/Math" ∈ mbTB := mb_tb 15 (by decide +kernel) rfl
theorem tb_oI : Cond.instanceMethod Lib.objectInit ∈ mbTB := mb_tb 30 (by decide +kernel) rfl
theorem tb_oC : Cond.code Lib.objectInit ⟨#[0xb1]⟩ 1 none ∈ mbTB := mb_tb 31 (by decide +kernel) rfl
theorem lX11_3 : Cond.methodLink RX11 3 Lib.objectInit ∈ mbTB := mb_tb 29 (by decide +kernel) rfl
theorem lX0_3 : Cond.methodLink RX0 3 Lib.objectInit ∈ mbTB := mb_tb 37 (by decide +kernel) rfl
theorem lX8_3 : Cond.methodLink RX8 3 Lib.objectInit ∈ mbTB := mb_tb 128 (by decide +kernel) rfl
theorem lX5_3 : Cond.methodLink RX5 3 Lib.objectInit ∈ mbTB := mb_tb 147 (by decide +kernel) rfl
theorem lX9_3 : Cond.methodLink RX9 3 Lib.objectInit ∈ mbTB := mb_tb 168 (by decide +kernel) rfl
theorem lX2_1 : Cond.methodLink RX2 1 Lib.objectInit ∈ mbTB := mb_tb 187 (by decide +kernel) rfl
theorem lX6_3 : Cond.methodLink RX6 3 Lib.objectInit ∈ mbTB := mb_tb 210 (by decide +kernel) rfl
theorem lX7_3 : Cond.methodLink RX7 3 Lib.objectInit ∈ mbTB := mb_tb 249 (by decide +kernel) rfl
theorem lX4_3 : Cond.methodLink RX4 3 Lib.objectInit ∈ mbTB := mb_tb 262 (by decide +kernel) rfl
theorem lX10_5 : Cond.methodLink RX10 5 Lib.objectInit ∈ mbTB := mb_tb 311 (by decide +kernel) rfl
theorem lX3_3 : Cond.methodLink RX3 3 Lib.objectInit ∈ mbTB := mb_tb 357 (by decide +kernel) rfl
theorem lX1_3 : Cond.methodLink RX1 3 Lib.objectInit ∈ mbTB := mb_tb 402 (by decide +kernel) rfl
theorem lX8_26 : Cond.methodLink RX8 26 arraycopyName ∈ mbTB := mb_tb 727 (by decide +kernel) rfl
theorem lX0_65 : Cond.methodLink RX0 65 arraycopyName ∈ mbTB := mb_tb 1324 (by decide +kernel) rfl
theorem lX12_7 : Cond.methodLink RX12 7 Lib.objectInit ∈ mbTB := mb_tb 1344 (by decide +kernel) rfl
theorem tb_mminS : Cond.static Lib.Math.min.name ∈ mbTB := mb_tb 501 (by decide +kernel) rfl
theorem tb_mminC : Cond.code Lib.Math.min.name Lib.Math.min.code 2 (some .int) ∈ mbTB := mb_tb 502 (by decide +kernel) rfl
theorem tb_mmaxS : Cond.static Lib.Math.max.name ∈ mbTB := mb_tb 599 (by decide +kernel) rfl
theorem tb_mmaxC : Cond.code Lib.Math.max.name Lib.Math.max.code 2 (some .int) ∈ mbTB := mb_tb 600 (by decide +kernel) rfl
