section MBops
variable {K : mbK} {pc q : Nat} {ls : List (Option gV)} {st : List gV} {sh : mbSh} {ct : mbCt}
/-! numbers -/
theorem g_iadd {x y : Int} (hd : decode K.1.2.1 pc = .ok (.iadd, 1)) (hq : pc + 1 = q) (k : G K q ls (.inl (x + y) :: st) sh ct) : G K pc ls (.inl (y) :: .inl (x) :: st) sh ct := by
  subst hq
  intro p l e s m args below meth c E C H locs lsv R
  have h := k p l e s m args below meth c E C H locs lsv R
  refine lv_iadd C.1 C.2.1 hd ?_
  rw [← Int32.ofInt_add]
  exact h
theorem g_isub {x y : Int} (hd : decode K.1.2.1 pc = .ok (.isub, 1)) (hq : pc + 1 = q) (k : G K q ls (.inl (x - y) :: st) sh ct) : G K pc ls (.inl (y) :: .inl (x) :: st) sh ct := by
  subst hq
  intro p l e s m args below meth c E C H locs lsv R
  have h := k p l e s m args below meth c E C H locs lsv R
  refine lv_isub C.1 C.2.1 hd ?_
  rw [← Int32.ofInt_sub]
  exact h
theorem g_imul {x y : Int} (hd : decode K.1.2.1 pc = .ok (.imul, 1)) (hq : pc + 1 = q) (k : G K q ls (.inl (x * y) :: st) sh ct) : G K pc ls (.inl (y) :: .inl (x) :: st) sh ct := by
  subst hq
  intro p l e s m args below meth c E C H locs lsv R
  have h := k p l e s m args below meth c E C H locs lsv R
  refine lv_imul C.1 C.2.1 hd ?_
  rw [← Int32.ofInt_mul]
  exact h
theorem g_ladd {x y : Int} (hd : decode K.1.2.1 pc = .ok (.ladd, 1)) (hq : pc + 1 = q) (k : G K q ls (.inr (.inl (x + y)) :: st) sh ct) : G K pc ls (.inr (.inl (y)) :: .inr (.inl (x)) :: st) sh ct := by
  subst hq
  intro p l e s m args below meth c E C H locs lsv R
  have h := k p l e s m args below meth c E C H locs lsv R
  refine lv_ladd C.1 C.2.1 hd ?_
  rw [← Int64.ofInt_add]
  exact h
theorem g_lsub {x y : Int} (hd : decode K.1.2.1 pc = .ok (.lsub, 1)) (hq : pc + 1 = q) (k : G K q ls (.inr (.inl (x - y)) :: st) sh ct) : G K pc ls (.inr (.inl (y)) :: .inr (.inl (x)) :: st) sh ct := by
  subst hq
  intro p l e s m args below meth c E C H locs lsv R
  have h := k p l e s m args below meth c E C H locs lsv R
  refine lv_lsub C.1 C.2.1 hd ?_
  rw [← Int64.ofInt_sub]
  exact h
theorem g_lmul {x y : Int} (hd : decode K.1.2.1 pc = .ok (.lmul, 1)) (hq : pc + 1 = q) (k : G K q ls (.inr (.inl (x * y)) :: st) sh ct) : G K pc ls (.inr (.inl (y)) :: .inr (.inl (x)) :: st) sh ct := by
  subst hq
  intro p l e s m args below meth c E C H locs lsv R
  have h := k p l e s m args below meth c E C H locs lsv R
  refine lv_lmul C.1 C.2.1 hd ?_
  rw [← Int64.ofInt_mul]
  exact h
theorem g_iand {x y : Int} (hd : decode K.1.2.1 pc = .ok (.iand, 1)) (hq : pc + 1 = q) (k : G K q ls (.inl (andI x y) :: st) sh ct) : G K pc ls (.inl (y) :: .inl (x) :: st) sh ct := by
  subst hq
  intro p l e s m args below meth c E C H locs lsv R
  have h := k p l e s m args below meth c E C H locs lsv R
  refine lv_iand C.1 C.2.1 hd ?_
  rw [mb_and]
  exact h
theorem g_ior {x y : Int} (hd : decode K.1.2.1 pc = .ok (.ior, 1)) (hq : pc + 1 = q) (k : G K q ls (.inl (orI x y) :: st) sh ct) : G K pc ls (.inl (y) :: .inl (x) :: st) sh ct := by
  subst hq
  intro p l e s m args below meth c E C H locs lsv R
  have h := k p l e s m args below meth c E C H locs lsv R
  refine lv_ior C.1 C.2.1 hd ?_
  rw [mb_or]
  exact h
theorem g_ixor {x y : Int} (hd : decode K.1.2.1 pc = .ok (.ixor, 1)) (hq : pc + 1 = q) (k : G K q ls (.inl (xorI x y) :: st) sh ct) : G K pc ls (.inl (y) :: .inl (x) :: st) sh ct := by
  subst hq
  intro p l e s m args below meth c E C H locs lsv R
  have h := k p l e s m args below meth c E C H locs lsv R
  refine lv_ixor C.1 C.2.1 hd ?_
  rw [mb_xor]
  exact h
theorem g_land {x y : Int} (hd : decode K.1.2.1 pc = .ok (.land, 1)) (hq : pc + 1 = q) (k : G K q ls (.inr (.inl (andL x y)) :: st) sh ct) : G K pc ls (.inr (.inl (y)) :: .inr (.inl (x)) :: st) sh ct := by
  subst hq
  intro p l e s m args below meth c E C H locs lsv R
  have h := k p l e s m args below meth c E C H locs lsv R
  refine lv_land C.1 C.2.1 hd ?_
  rw [mb_land]
  exact h
theorem g_lor {x y : Int} (hd : decode K.1.2.1 pc = .ok (.lor, 1)) (hq : pc + 1 = q) (k : G K q ls (.inr (.inl (orL x y)) :: st) sh ct) : G K pc ls (.inr (.inl (y)) :: .inr (.inl (x)) :: st) sh ct := by
  subst hq
  intro p l e s m args below meth c E C H locs lsv R
  have h := k p l e s m args below meth c E C H locs lsv R
  refine lv_lor C.1 C.2.1 hd ?_
  rw [mb_lor]
  exact h
theorem g_lxor {x y : Int} (hd : decode K.1.2.1 pc = .ok (.lxor, 1)) (hq : pc + 1 = q) (k : G K q ls (.inr (.inl (xorL x y)) :: st) sh ct) : G K pc ls (.inr (.inl (y)) :: .inr (.inl (x)) :: st) sh ct := by
  subst hq
  intro p l e s m args below meth c E C H locs lsv R
  have h := k p l e s m args below meth c E C H locs lsv R
  refine lv_lxor C.1 C.2.1 hd ?_
  rw [mb_lxor]
  exact h
theorem g_idiv {x y : Int} (hd : decode K.1.2.1 pc = .ok (.idiv, 1)) (hn : w32 y ≠ 0) (hq : pc + 1 = q) (k : G K q ls (.inl ((w32 x).tdiv (w32 y)) :: st) sh ct) : G K pc ls (.inl (y) :: .inl (x) :: st) sh ct := by
  subst hq
  intro p l e s m args below meth c E C H locs lsv R
  have h := k p l e s m args below meth c E C H locs lsv R
  refine lv_idiv C.1 C.2.1 hd (fun z => hn ((mb_ieq y 0).mp z)) ?_
  rw [mb_div]
  exact h
theorem g_irem {x y : Int} (hd : decode K.1.2.1 pc = .ok (.irem, 1)) (hn : w32 y ≠ 0) (hq : pc + 1 = q) (k : G K q ls (.inl ((w32 x).tmod (w32 y)) :: st) sh ct) : G K pc ls (.inl (y) :: .inl (x) :: st) sh ct := by
  subst hq
  intro p l e s m args below meth c E C H locs lsv R
  have h := k p l e s m args below meth c E C H locs lsv R
  refine lv_irem C.1 C.2.1 hd (fun z => hn ((mb_ieq y 0).mp z)) ?_
  rw [mb_rem]
  exact h
theorem g_ldiv {x y : Int} (hd : decode K.1.2.1 pc = .ok (.ldiv, 1)) (hn : w64 y ≠ 0) (hq : pc + 1 = q) (k : G K q ls (.inr (.inl ((w64 x).tdiv (w64 y))) :: st) sh ct) : G K pc ls (.inr (.inl (y)) :: .inr (.inl (x)) :: st) sh ct := by
  subst hq
  intro p l e s m args below meth c E C H locs lsv R
  have h := k p l e s m args below meth c E C H locs lsv R
  refine lv_ldiv C.1 C.2.1 hd (fun z => hn ((mb_leq y 0).mp z)) ?_
  rw [mb_ldiv]
  exact h
theorem g_lrem {x y : Int} (hd : decode K.1.2.1 pc = .ok (.lrem, 1)) (hn : w64 y ≠ 0) (hq : pc + 1 = q) (k : G K q ls (.inr (.inl ((w64 x).tmod (w64 y))) :: st) sh ct) : G K pc ls (.inr (.inl (y)) :: .inr (.inl (x)) :: st) sh ct := by
  subst hq
  intro p l e s m args below meth c E C H locs lsv R
  have h := k p l e s m args below meth c E C H locs lsv R
  refine lv_lrem C.1 C.2.1 hd (fun z => hn ((mb_leq y 0).mp z)) ?_
  rw [mb_lrem]
  exact h
theorem g_ishl {x y : Int} (hd : decode K.1.2.1 pc = .ok (.ishl, 1)) (hq : pc + 1 = q) (k : G K q ls (.inl (shlI x y) :: st) sh ct) : G K pc ls (.inl (y) :: .inl (x) :: st) sh ct := by
  subst hq
  intro p l e s m args below meth c E C H locs lsv R
  have h := k p l e s m args below meth c E C H locs lsv R
  refine lv_ishl C.1 C.2.1 hd ?_
  rw [mb_shl]
  exact h
theorem g_ishr {x y : Int} (hd : decode K.1.2.1 pc = .ok (.ishr, 1)) (hq : pc + 1 = q) (k : G K q ls (.inl (shrI x y) :: st) sh ct) : G K pc ls (.inl (y) :: .inl (x) :: st) sh ct := by
  subst hq
  intro p l e s m args below meth c E C H locs lsv R
  have h := k p l e s m args below meth c E C H locs lsv R
  refine lv_ishr C.1 C.2.1 hd ?_
  rw [mb_shr]
  exact h
theorem g_iushr {x y : Int} (hd : decode K.1.2.1 pc = .ok (.iushr, 1)) (hq : pc + 1 = q) (k : G K q ls (.inl (ushI x y) :: st) sh ct) : G K pc ls (.inl (y) :: .inl (x) :: st) sh ct := by
  subst hq
  intro p l e s m args below meth c E C H locs lsv R
  have h := k p l e s m args below meth c E C H locs lsv R
  exact lv_iushr C.1 C.2.1 hd (mb_ush x y) h
theorem g_lushr {x y : Int} (hd : decode K.1.2.1 pc = .ok (.lushr, 1)) (hq : pc + 1 = q) (k : G K q ls (.inr (.inl (ushL x y)) :: st) sh ct) : G K pc ls (.inl (y) :: .inr (.inl (x)) :: st) sh ct := by
  subst hq
  intro p l e s m args below meth c E C H locs lsv R
  have h := k p l e s m args below meth c E C H locs lsv R
  exact lv_lushr C.1 C.2.1 hd (mb_lush x y) h
theorem g_lshl {x y : Int} (hd : decode K.1.2.1 pc = .ok (.lshl, 1)) (hq : pc + 1 = q) (k : G K q ls (.inr (.inl (shlL x y)) :: st) sh ct) : G K pc ls (.inl (y) :: .inr (.inl (x)) :: st) sh ct := by
  subst hq
  intro p l e s m args below meth c E C H locs lsv R
  have h := k p l e s m args below meth c E C H locs lsv R
  exact lv_lshl C.1 C.2.1 hd (mb_lshl x y) h
theorem g_lshr {x y : Int} (hd : decode K.1.2.1 pc = .ok (.lshr, 1)) (hq : pc + 1 = q) (k : G K q ls (.inr (.inl (shrL x y)) :: st) sh ct) : G K pc ls (.inl (y) :: .inr (.inl (x)) :: st) sh ct := by
  subst hq
  intro p l e s m args below meth c E C H locs lsv R
  have h := k p l e s m args below meth c E C H locs lsv R
  exact lv_lshr C.1 C.2.1 hd (mb_lshr x y) h
theorem g_i2l {x : Int} (hd : decode K.1.2.1 pc = .ok (.i2l, 1)) (hq : pc + 1 = q) (k : G K q ls (.inr (.inl (w32 x)) :: st) sh ct) : G K pc ls (.inl (x) :: st) sh ct := by
  subst hq
  intro p l e s m args below meth c E C H locs lsv R
  have h := k p l e s m args below meth c E C H locs lsv R
  exact lv_i2l C.1 C.2.1 hd (mb_i2l x) h
theorem g_l2i {x : Int} (hd : decode K.1.2.1 pc = .ok (.l2i, 1)) (hq : pc + 1 = q) (k : G K q ls (.inl (x) :: st) sh ct) : G K pc ls (.inr (.inl (x)) :: st) sh ct := by
  subst hq
  intro p l e s m args below meth c E C H locs lsv R
  have h := k p l e s m args below meth c E C H locs lsv R
  exact lv_l2i C.1 C.2.1 hd (mb_l2i x) h
theorem g_i2b {x : Int} (hd : decode K.1.2.1 pc = .ok (.i2b, 1)) (hq : pc + 1 = q) (k : G K q ls (.inl (w8 x) :: st) sh ct) : G K pc ls (.inl (x) :: st) sh ct := by
  subst hq
  intro p l e s m args below meth c E C H locs lsv R
  have h := k p l e s m args below meth c E C H locs lsv R
  exact lv_i2b C.1 C.2.1 hd (mb_i2b x) h
theorem g_i2s {x : Int} (hd : decode K.1.2.1 pc = .ok (.i2s, 1)) (hq : pc + 1 = q) (k : G K q ls (.inl (w16 x) :: st) sh ct) : G K pc ls (.inl (x) :: st) sh ct := by
  subst hq
  intro p l e s m args below meth c E C H locs lsv R
  have h := k p l e s m args below meth c E C H locs lsv R
  exact lv_i2s C.1 C.2.1 hd (mb_i2s x) h
theorem g_ineg {x : Int} (hd : decode K.1.2.1 pc = .ok (.ineg, 1)) (hq : pc + 1 = q) (k : G K q ls (.inl (-x) :: st) sh ct) : G K pc ls (.inl (x) :: st) sh ct := by
  subst hq
  intro p l e s m args below meth c E C H locs lsv R
  have h := k p l e s m args below meth c E C H locs lsv R
  refine lv_ineg C.1 C.2.1 hd ?_
  rw [← Int32.ofInt_neg]
  exact h
theorem g_lcmp {x y : Int} (hd : decode K.1.2.1 pc = .ok (.lcmp, 1)) (hq : pc + 1 = q) (k : G K q ls (.inl (cmpL x y) :: st) sh ct) : G K pc ls (.inr (.inl (y)) :: .inr (.inl (x)) :: st) sh ct := by
  subst hq
  intro p l e s m args below meth c E C H locs lsv R
  have h := k p l e s m args below meth c E C H locs lsv R
  refine W.lcmp C.1 C.2.1 hd ?_
  rw [mb_lcmp]
  exact h
theorem g_iconst {x : Int} (hd : decode K.1.2.1 pc = .ok (.iconst x, 1)) (hq : pc + 1 = q) (k : G K q ls (.inl (x) :: st) sh ct) : G K pc ls (st) sh ct := by
  subst hq
  intro p l e s m args below meth c E C H locs lsv R
  have h := k p l e s m args below meth c E C H locs lsv R
  exact lv_iconst C.1 C.2.1 hd rfl h
theorem g_bipush {x : Int} (hd : decode K.1.2.1 pc = .ok (.bipush x, 2)) (hx : (Int8.ofInt x).toInt32 = Int32.ofInt x) (hq : pc + 2 = q) (k : G K q ls (.inl (x) :: st) sh ct) : G K pc ls (st) sh ct := by
  subst hq
  intro p l e s m args below meth c E C H locs lsv R
  have h := k p l e s m args below meth c E C H locs lsv R
  exact lv_bipush C.1 C.2.1 hd hx h
theorem g_sipush {x : Int} (hd : decode K.1.2.1 pc = .ok (.sipush x, 3)) (hx : (Int16.ofInt x).toInt32 = Int32.ofInt x) (hq : pc + 3 = q) (k : G K q ls (.inl (x) :: st) sh ct) : G K pc ls (st) sh ct := by
  subst hq
  intro p l e s m args below meth c E C H locs lsv R
  have h := k p l e s m args below meth c E C H locs lsv R
  exact lv_sipush C.1 C.2.1 hd hx h
theorem g_lconst0  (hd : decode K.1.2.1 pc = .ok (.lconst 0, 1)) (hq : pc + 1 = q) (k : G K q ls (.inr (.inl (0)) :: st) sh ct) : G K pc ls (st) sh ct := by
  subst hq
  intro p l e s m args below meth c E C H locs lsv R
  have h := k p l e s m args below meth c E C H locs lsv R
  exact lv_lconst C.1 C.2.1 hd rfl h
theorem g_lconst1  (hd : decode K.1.2.1 pc = .ok (.lconst 1, 1)) (hq : pc + 1 = q) (k : G K q ls (.inr (.inl (1)) :: st) sh ct) : G K pc ls (st) sh ct := by
  subst hq
  intro p l e s m args below meth c E C H locs lsv R
  have h := k p l e s m args below meth c E C H locs lsv R
  exact lv_lconst C.1 C.2.1 hd rfl h
theorem g_ldc {x : Int} {i : Nat} (hd : decode K.1.2.1 pc = .ok (.ldc i, 2)) (hw : Cond.constant K.1.1.cls i (Int32.ofInt x) ∈ mbTB) (hq : pc + 2 = q) (k : G K q ls (.inl (x) :: st) sh ct) : G K pc ls (st) sh ct := by
  subst hq
  intro p l e s m args below meth c E C H locs lsv R
  have h := k p l e s m args below meth c E C H locs lsv R
  exact lv_ldc C.1 C.2.1 C.2.2.2.2.2.2.1 (C.2.2.2.2.2.2.2.1 _ hw) hd h
theorem g_ldcw {x : Int} {i : Nat} (hd : decode K.1.2.1 pc = .ok (.ldc_w i, 3)) (hw : Cond.constant K.1.1.cls i (Int32.ofInt x) ∈ mbTB) (hq : pc + 3 = q) (k : G K q ls (.inl (x) :: st) sh ct) : G K pc ls (st) sh ct := by
  subst hq
  intro p l e s m args below meth c E C H locs lsv R
  have h := k p l e s m args below meth c E C H locs lsv R
  exact lv_ldcw C.1 C.2.1 C.2.2.2.2.2.2.1 (C.2.2.2.2.2.2.2.1 _ hw) hd h
theorem g_ldc2 {x : Int} {i : Nat} (hd : decode K.1.2.1 pc = .ok (.ldc2_w i, 3)) (hw : Cond.constantLong K.1.1.cls i (Int64.ofInt x) ∈ mbTB) (hq : pc + 3 = q) (k : G K q ls (.inr (.inl (x)) :: st) sh ct) : G K pc ls (st) sh ct := by
  subst hq
  intro p l e s m args below meth c E C H locs lsv R
  have h := k p l e s m args below meth c E C H locs lsv R
  exact lv_ldc2 C.1 C.2.1 C.2.2.2.2.2.2.1 (C.2.2.2.2.2.2.2.1 _ hw) hd h
/-! the stack -/
theorem g_dup {v : gV} (hd : decode K.1.2.1 pc = .ok (.dup, 1)) (hv : gcat v = 1) (hq : pc + 1 = q) (k : G K q ls (v :: v :: st) sh ct) : G K pc ls (v :: st) sh ct := by
  subst hq
  intro p l e s m args below meth c E C H locs lsv R
  have h := k p l e s m args below meth c E C H locs lsv R
  exact lv_dup C.1 C.2.1 hd (by rw [tv_cat]; exact hv) h
theorem g_pop {v : gV} (hd : decode K.1.2.1 pc = .ok (.pop, 1)) (hv : gcat v = 1) (hq : pc + 1 = q) (k : G K q ls (st) sh ct) : G K pc ls (v :: st) sh ct := by
  subst hq
  intro p l e s m args below meth c E C H locs lsv R
  have h := k p l e s m args below meth c E C H locs lsv R
  exact lv_pop C.1 C.2.1 hd (by rw [tv_cat]; exact hv) h
theorem g_dup2 {u v : gV} (hd : decode K.1.2.1 pc = .ok (.dup2, 1)) (hv : gcat v = 1) (hu : gcat u = 1) (hq : pc + 1 = q) (k : G K q ls (v :: u :: v :: u :: st) sh ct) : G K pc ls (v :: u :: st) sh ct := by
  subst hq
  intro p l e s m args below meth c E C H locs lsv R
  have h := k p l e s m args below meth c E C H locs lsv R
  exact lv_dup2_11 C.1 C.2.1 hd (by rw [tv_cat]; exact hv) (by rw [tv_cat]; exact hu) h
theorem g_dup2L {v : gV} (hd : decode K.1.2.1 pc = .ok (.dup2, 1)) (hv : gcat v = 2) (hq : pc + 1 = q) (k : G K q ls (v :: v :: st) sh ct) : G K pc ls (v :: st) sh ct := by
  subst hq
  intro p l e s m args below meth c E C H locs lsv R
  have h := k p l e s m args below meth c E C H locs lsv R
  exact lv_dup2_2 C.1 C.2.1 hd (by rw [tv_cat]; exact hv) h
theorem g_pop2L {v : gV} (hd : decode K.1.2.1 pc = .ok (.pop2, 1)) (hv : gcat v = 2) (hq : pc + 1 = q) (k : G K q ls (st) sh ct) : G K pc ls (v :: st) sh ct := by
  subst hq
  intro p l e s m args below meth c E C H locs lsv R
  have h := k p l e s m args below meth c E C H locs lsv R
  exact lv_pop2_2 C.1 C.2.1 hd (by rw [tv_cat]; exact hv) h
theorem g_pop2 {u v : gV} (hd : decode K.1.2.1 pc = .ok (.pop2, 1)) (hv : gcat v = 1) (hu : gcat u = 1) (hq : pc + 1 = q) (k : G K q ls (st) sh ct) : G K pc ls (v :: u :: st) sh ct := by
  subst hq
  intro p l e s m args below meth c E C H locs lsv R
  have h := k p l e s m args below meth c E C H locs lsv R
  exact lv_pop2_11 C.1 C.2.1 hd (by rw [tv_cat]; exact hv) (by rw [tv_cat]; exact hu) h
/-! branches -/
theorem g_goto {off : Int} (hd : decode K.1.2.1 pc = .ok (.goto off, 3)) (ht : (pc : Int) + off = (q : Int)) (k : G K q ls st sh ct) : G K pc ls st sh ct := by
  intro p l e s m args below meth c E C H locs lsv R
  exact lv_goto C.1 C.2.1 hd ht (k p l e s m args below meth c E C H locs lsv R)
theorem g_icmp_eq {x y off : Int} {tg : Nat} (hd : decode K.1.2.1 pc = .ok (.if_icmp .eq off, 3)) (ht : (pc : Int) + off = (tg : Int)) (hq : pc + 3 = q) (kt : w32 x = w32 y → G K tg ls st sh ct) (kf : ¬ w32 x = w32 y → G K q ls st sh ct) : G K pc ls (.inl y :: .inl x :: st) sh ct := by
  subst hq
  intro p l e s m args below meth c E C H locs lsv R
  exact lv_icmp_eq C.1 C.2.1 hd ht (fun z => kt ((mb_ieq x y).mp z) p l e s m args below meth c E C H locs lsv R) (fun z => kf (fun t => z ((mb_ieq x y).mpr t)) p l e s m args below meth c E C H locs lsv R)
theorem g_if_eq {x off : Int} {tg : Nat} (hd : decode K.1.2.1 pc = .ok (.ifCond .eq off, 3)) (ht : (pc : Int) + off = (tg : Int)) (hq : pc + 3 = q) (kt : w32 x = 0 → G K tg ls st sh ct) (kf : ¬ w32 x = 0 → G K q ls st sh ct) : G K pc ls (.inl x :: st) sh ct := by
  subst hq
  intro p l e s m args below meth c E C H locs lsv R
  exact lv_if_eq C.1 C.2.1 hd ht (fun z => kt ((mb_ieq x 0).mp z) p l e s m args below meth c E C H locs lsv R) (fun z => kf (fun t => z ((mb_ieq x 0).mpr t)) p l e s m args below meth c E C H locs lsv R)
theorem g_icmp_ne {x y off : Int} {tg : Nat} (hd : decode K.1.2.1 pc = .ok (.if_icmp .ne off, 3)) (ht : (pc : Int) + off = (tg : Int)) (hq : pc + 3 = q) (kt : ¬ w32 x = w32 y → G K tg ls st sh ct) (kf : w32 x = w32 y → G K q ls st sh ct) : G K pc ls (.inl y :: .inl x :: st) sh ct := by
  subst hq
  intro p l e s m args below meth c E C H locs lsv R
  exact lv_icmp_ne C.1 C.2.1 hd ht (fun z => kt (fun t => z ((mb_ieq x y).mpr t)) p l e s m args below meth c E C H locs lsv R) (fun z => kf ((mb_ieq x y).mp z) p l e s m args below meth c E C H locs lsv R)
theorem g_if_ne {x off : Int} {tg : Nat} (hd : decode K.1.2.1 pc = .ok (.ifCond .ne off, 3)) (ht : (pc : Int) + off = (tg : Int)) (hq : pc + 3 = q) (kt : ¬ w32 x = 0 → G K tg ls st sh ct) (kf : w32 x = 0 → G K q ls st sh ct) : G K pc ls (.inl x :: st) sh ct := by
  subst hq
  intro p l e s m args below meth c E C H locs lsv R
  exact lv_if_ne C.1 C.2.1 hd ht (fun z => kt (fun t => z ((mb_ieq x 0).mpr t)) p l e s m args below meth c E C H locs lsv R) (fun z => kf ((mb_ieq x 0).mp z) p l e s m args below meth c E C H locs lsv R)
theorem g_icmp_lt {x y off : Int} {tg : Nat} (hd : decode K.1.2.1 pc = .ok (.if_icmp .lt off, 3)) (ht : (pc : Int) + off = (tg : Int)) (hq : pc + 3 = q) (kt : w32 x < w32 y → G K tg ls st sh ct) (kf : w32 y ≤ w32 x → G K q ls st sh ct) : G K pc ls (.inl y :: .inl x :: st) sh ct := by
  subst hq
  intro p l e s m args below meth c E C H locs lsv R
  exact lv_icmp_lt C.1 C.2.1 hd ht (fun z => kt ((mb_ilt x y).mp z) p l e s m args below meth c E C H locs lsv R) (fun z => kf (Int.not_lt.mp (fun t => z ((mb_ilt x y).mpr t))) p l e s m args below meth c E C H locs lsv R)
theorem g_if_lt {x off : Int} {tg : Nat} (hd : decode K.1.2.1 pc = .ok (.ifCond .lt off, 3)) (ht : (pc : Int) + off = (tg : Int)) (hq : pc + 3 = q) (kt : w32 x < 0 → G K tg ls st sh ct) (kf : 0 ≤ w32 x → G K q ls st sh ct) : G K pc ls (.inl x :: st) sh ct := by
  subst hq
  intro p l e s m args below meth c E C H locs lsv R
  exact lv_if_lt C.1 C.2.1 hd ht (fun z => kt ((mb_ilt x 0).mp z) p l e s m args below meth c E C H locs lsv R) (fun z => kf (Int.not_lt.mp (fun t => z ((mb_ilt x 0).mpr t))) p l e s m args below meth c E C H locs lsv R)
theorem g_icmp_ge {x y off : Int} {tg : Nat} (hd : decode K.1.2.1 pc = .ok (.if_icmp .ge off, 3)) (ht : (pc : Int) + off = (tg : Int)) (hq : pc + 3 = q) (kt : w32 y ≤ w32 x → G K tg ls st sh ct) (kf : w32 x < w32 y → G K q ls st sh ct) : G K pc ls (.inl y :: .inl x :: st) sh ct := by
  subst hq
  intro p l e s m args below meth c E C H locs lsv R
  exact lv_icmp_ge C.1 C.2.1 hd ht (fun z => kt ((mb_ile y x).mp z) p l e s m args below meth c E C H locs lsv R) (fun z => kf (Int.not_le.mp (fun t => z ((mb_ile y x).mpr t))) p l e s m args below meth c E C H locs lsv R)
theorem g_if_ge {x off : Int} {tg : Nat} (hd : decode K.1.2.1 pc = .ok (.ifCond .ge off, 3)) (ht : (pc : Int) + off = (tg : Int)) (hq : pc + 3 = q) (kt : 0 ≤ w32 x → G K tg ls st sh ct) (kf : w32 x < 0 → G K q ls st sh ct) : G K pc ls (.inl x :: st) sh ct := by
  subst hq
  intro p l e s m args below meth c E C H locs lsv R
  exact lv_if_ge C.1 C.2.1 hd ht (fun z => kt ((mb_ile 0 x).mp z) p l e s m args below meth c E C H locs lsv R) (fun z => kf (Int.not_le.mp (fun t => z ((mb_ile 0 x).mpr t))) p l e s m args below meth c E C H locs lsv R)
theorem g_icmp_gt {x y off : Int} {tg : Nat} (hd : decode K.1.2.1 pc = .ok (.if_icmp .gt off, 3)) (ht : (pc : Int) + off = (tg : Int)) (hq : pc + 3 = q) (kt : w32 y < w32 x → G K tg ls st sh ct) (kf : w32 x ≤ w32 y → G K q ls st sh ct) : G K pc ls (.inl y :: .inl x :: st) sh ct := by
  subst hq
  intro p l e s m args below meth c E C H locs lsv R
  exact lv_icmp_gt C.1 C.2.1 hd ht (fun z => kt ((mb_ilt y x).mp z) p l e s m args below meth c E C H locs lsv R) (fun z => kf (Int.not_lt.mp (fun t => z ((mb_ilt y x).mpr t))) p l e s m args below meth c E C H locs lsv R)
theorem g_if_gt {x off : Int} {tg : Nat} (hd : decode K.1.2.1 pc = .ok (.ifCond .gt off, 3)) (ht : (pc : Int) + off = (tg : Int)) (hq : pc + 3 = q) (kt : 0 < w32 x → G K tg ls st sh ct) (kf : w32 x ≤ 0 → G K q ls st sh ct) : G K pc ls (.inl x :: st) sh ct := by
  subst hq
  intro p l e s m args below meth c E C H locs lsv R
  exact lv_if_gt C.1 C.2.1 hd ht (fun z => kt ((mb_ilt 0 x).mp z) p l e s m args below meth c E C H locs lsv R) (fun z => kf (Int.not_lt.mp (fun t => z ((mb_ilt 0 x).mpr t))) p l e s m args below meth c E C H locs lsv R)
theorem g_icmp_le {x y off : Int} {tg : Nat} (hd : decode K.1.2.1 pc = .ok (.if_icmp .le off, 3)) (ht : (pc : Int) + off = (tg : Int)) (hq : pc + 3 = q) (kt : w32 x ≤ w32 y → G K tg ls st sh ct) (kf : w32 y < w32 x → G K q ls st sh ct) : G K pc ls (.inl y :: .inl x :: st) sh ct := by
  subst hq
  intro p l e s m args below meth c E C H locs lsv R
  exact lv_icmp_le C.1 C.2.1 hd ht (fun z => kt ((mb_ile x y).mp z) p l e s m args below meth c E C H locs lsv R) (fun z => kf (Int.not_le.mp (fun t => z ((mb_ile x y).mpr t))) p l e s m args below meth c E C H locs lsv R)
theorem g_if_le {x off : Int} {tg : Nat} (hd : decode K.1.2.1 pc = .ok (.ifCond .le off, 3)) (ht : (pc : Int) + off = (tg : Int)) (hq : pc + 3 = q) (kt : w32 x ≤ 0 → G K tg ls st sh ct) (kf : 0 < w32 x → G K q ls st sh ct) : G K pc ls (.inl x :: st) sh ct := by
  subst hq
  intro p l e s m args below meth c E C H locs lsv R
  exact lv_if_le C.1 C.2.1 hd ht (fun z => kt ((mb_ile x 0).mp z) p l e s m args below meth c E C H locs lsv R) (fun z => kf (Int.not_le.mp (fun t => z ((mb_ile x 0).mpr t))) p l e s m args below meth c E C H locs lsv R)
/-- a row of cases: the first whose number it is, else the rest -/
theorem g_tabOut {x dflt lo hi : Int} {offs : Array Int} {len : Nat} (hd : decode K.1.2.1 pc = .ok (.tableswitch dflt lo hi offs, len)) (h : w32 x < lo ∨ hi < w32 x) (ht : (pc : Int) + dflt = (q : Int)) (k : G K q ls st sh ct) : G K pc ls (.inl x :: st) sh ct := by
  intro p l e s m args below meth c E C H locs lsv R
  exact lv_tableOut C.1 C.2.1 hd (by rw [mb_ti]; exact h) ht (k p l e s m args below meth c E C H locs lsv R)
theorem g_tabIn {x dflt lo hi off : Int} {offs : Array Int} {len : Nat} (hd : decode K.1.2.1 pc = .ok (.tableswitch dflt lo hi offs, len)) (v : Int) (hx : w32 x = v) (h1 : ¬ v < lo) (h2 : ¬ hi < v) (ho : offs[(v - lo).toNat]? = some off) (ht : (pc : Int) + off = (q : Int)) (k : G K q ls st sh ct) : G K pc ls (.inl x :: st) sh ct := by
  subst hx
  intro p l e s m args below meth c E C H locs lsv R
  exact lv_tableIn C.1 C.2.1 hd (by rw [mb_ti]; exact h1) (by rw [mb_ti]; exact h2) (by rw [mb_ti]; exact ho) ht (k p l e s m args below meth c E C H locs lsv R)
theorem g_look {x dflt off : Int} {ps : Array (Int × Int)} {len : Nat} (hd : decode K.1.2.1 pc = .ok (.lookupswitch dflt ps, len)) (hp : (ps.toList.zip (ps.toList.drop 1)).all (fun (a, next) => a.1 < next.1) = true) (ho : Op.lookupswitch.offset ps.toList dflt (w32 x) = off) (ht : (pc : Int) + off = (q : Int)) (k : G K q ls st sh ct) : G K pc ls (.inl x :: st) sh ct := by
  intro p l e s m args below meth c E C H locs lsv R
  exact lv_lookup C.1 C.2.1 hd hp (by rw [mb_ti]; exact ho) ht (k p l e s m args below meth c E C H locs lsv R)
/-! locals -/
theorem g_iload {x : Int} {i : Nat} (hd : decode K.1.2.1 pc = .ok (.iload i, 2)) (hl : ls[i]? = some (some (.inl x))) (hq : pc + 2 = q) (k : G K q ls ((.inl x) :: st) sh ct) : G K pc ls st sh ct := by
  subst hq
  intro p l e s m args below meth c E C H locs lsv R
  exact lv_iload C.1 C.2.1 hd (R.2.2.2.1.2.2 i _ hl) (k p l e s m args below meth c E C H locs lsv R)
theorem g_iload_n {x : Int} {i : Fin 4} (hd : decode K.1.2.1 pc = .ok (.iload_n i, 1)) (hl : ls[i.val]? = some (some (.inl x))) (hq : pc + 1 = q) (k : G K q ls ((.inl x) :: st) sh ct) : G K pc ls st sh ct := by
  subst hq
  intro p l e s m args below meth c E C H locs lsv R
  exact lv_iload_n C.1 C.2.1 hd rfl (R.2.2.2.1.2.2 i.val _ hl) (k p l e s m args below meth c E C H locs lsv R)
theorem g_lload {x : Int} {i : Nat} (hd : decode K.1.2.1 pc = .ok (.lload i, 2)) (hl : ls[i]? = some (some (.inr (.inl x)))) (hq : pc + 2 = q) (k : G K q ls ((.inr (.inl x)) :: st) sh ct) : G K pc ls st sh ct := by
  subst hq
  intro p l e s m args below meth c E C H locs lsv R
  exact lv_lload C.1 C.2.1 hd (R.2.2.2.1.2.2 i _ hl) (k p l e s m args below meth c E C H locs lsv R)
theorem g_lload_n {x : Int} {i : Fin 4} (hd : decode K.1.2.1 pc = .ok (.lload_n i, 1)) (hl : ls[i.val]? = some (some (.inr (.inl x)))) (hq : pc + 1 = q) (k : G K q ls ((.inr (.inl x)) :: st) sh ct) : G K pc ls st sh ct := by
  subst hq
  intro p l e s m args below meth c E C H locs lsv R
  exact lv_lload_n C.1 C.2.1 hd rfl (R.2.2.2.1.2.2 i.val _ hl) (k p l e s m args below meth c E C H locs lsv R)
theorem rv_cases (E : mbE) (x : Int) : (rvE E x = .null) ∨ ∃ a : Nat, rvE E x = .ref a := by
  unfold rvE
  split
  · exact Or.inl rfl
  · split
    · exact Or.inr ⟨_, rfl⟩
    · exact Or.inr ⟨_, rfl⟩
theorem g_aload {x : Int} {i : Nat} (hd : decode K.1.2.1 pc = .ok (.aload i, 2)) (hl : ls[i]? = some (some (.inr (.inr x)))) (hq : pc + 2 = q) (k : G K q ls (.inr (.inr x) :: st) sh ct) : G K pc ls st sh ct := by
  subst hq
  intro p l e s m args below meth c E C H locs lsv R
  have h := k p l e s m args below meth c E C H locs lsv R
  have hs := R.2.2.2.1.2.2 i _ hl
  rcases rv_cases E x with h0 | ⟨a, h0⟩
  · have e1 : tv E (.inr (.inr x)) = .null := h0
    rw [List.map_cons, e1] at h
    rw [e1] at hs
    exact lv_aloadN C.1 C.2.1 hd hs h
  · have e1 : tv E (.inr (.inr x)) = .ref a := h0
    rw [List.map_cons, e1] at h
    rw [e1] at hs
    exact lv_aload C.1 C.2.1 hd hs h
theorem g_aload_n {x : Int} {i : Fin 4} (hd : decode K.1.2.1 pc = .ok (.aload_n i, 1)) (hl : ls[i.val]? = some (some (.inr (.inr x)))) (hq : pc + 1 = q) (k : G K q ls (.inr (.inr x) :: st) sh ct) : G K pc ls st sh ct := by
  subst hq
  intro p l e s m args below meth c E C H locs lsv R
  have h := k p l e s m args below meth c E C H locs lsv R
  have hs := R.2.2.2.1.2.2 i.val _ hl
  rcases rv_cases E x with h0 | ⟨a, h0⟩
  · have e1 : tv E (.inr (.inr x)) = .null := h0
    rw [List.map_cons, e1] at h
    rw [e1] at hs
    exact lv_aload_nN C.1 C.2.1 hd rfl hs h
  · have e1 : tv E (.inr (.inr x)) = .ref a := h0
    rw [List.map_cons, e1] at h
    rw [e1] at hs
    exact lv_aload_n C.1 C.2.1 hd rfl hs h
/-- a store into one place: what lay there is gone, and a long that began one place ahead -/
def dropL (o : Option gV) : Option gV := match o with
  | some (.inr (.inl _)) => none
  | o => o
def stA : List (Option gV) → Nat → gV → List (Option gV)
  | [], _, _ => []
  | _ :: r, 0, v => some v :: r
  | o :: r, 1, v => dropL o :: stA r 0 v
  | o :: r, i + 2, v => o :: stA r (i + 1) v
def stB : List (Option gV) → Nat → gV → List (Option gV)
  | [], _, _ => []
  | _ :: r, 0, v => some v :: (match r with
    | [] => []
    | _ :: r2 => none :: r2)
  | o :: r, 1, v => dropL o :: stB r 0 v
  | o :: r, i + 2, v => o :: stB r (i + 1) v
theorem dropL_some {o : Option gV} {w : gV} (h : dropL o = some w) : o = some w ∧ gcat w = 1 := by
  unfold dropL at h
  split at h
  · cases h
  · rename_i hn
    refine ⟨h, ?_⟩
    rcases w with x | x | x
    · rfl
    · exact absurd h (hn x)
    · rfl
theorem stA_at : ∀ (L : List (Option gV)) (i j : Nat) (v w : gV), (stA L i v)[j]? = some (some w) → (j = i ∧ w = v) ∨ (j ≠ i ∧ L[j]? = some (some w) ∧ ¬ (j + 1 = i ∧ gcat w = 2))
  | [], i, j, v, w, h => by simp [stA] at h
  | o :: r, 0, j, v, w, h => by
    match j, h with
    | 0, h => simp [stA] at h; exact Or.inl ⟨rfl, h.symm⟩
    | j + 1, h => simp [stA] at h; exact Or.inr ⟨by omega, by simpa using h, by omega⟩
  | o :: r, 1, j, v, w, h => by
    match j, h with
    | 0, h =>
      simp [stA] at h
      obtain ⟨h1, h2⟩ := dropL_some h
      exact Or.inr ⟨by omega, by simp [h1], by omega⟩
    | j + 1, h =>
      simp [stA] at h
      rcases stA_at r 0 j v w h with ⟨h1, h2⟩ | ⟨h1, h2, h3⟩
      · exact Or.inl ⟨by omega, h2⟩
      · exact Or.inr ⟨by omega, by simpa using h2, by omega⟩
  | o :: r, i + 2, j, v, w, h => by
    match j, h with
    | 0, h => simp [stA] at h; exact Or.inr ⟨by omega, by simp [h], by omega⟩
    | j + 1, h =>
      simp [stA] at h
      rcases stA_at r (i + 1) j v w h with ⟨h1, h2⟩ | ⟨h1, h2, h3⟩
      · exact Or.inl ⟨by omega, h2⟩
      · exact Or.inr ⟨by omega, by simpa using h2, by omega⟩
theorem stB_at : ∀ (L : List (Option gV)) (i j : Nat) (v w : gV), (stB L i v)[j]? = some (some w) → (j = i ∧ w = v) ∨ (j ≠ i ∧ j ≠ i + 1 ∧ L[j]? = some (some w) ∧ ¬ (j + 1 = i ∧ gcat w = 2))
  | [], i, j, v, w, h => by simp [stB] at h
  | o :: r, 0, j, v, w, h => by
    match j, r, h with
    | 0, r, h => simp [stB] at h; exact Or.inl ⟨rfl, h.symm⟩
    | j + 1, [], h => simp [stB] at h
    | 1, x :: r, h => simp [stB] at h
    | j + 2, x :: r, h => simp [stB] at h; exact Or.inr ⟨by omega, by omega, by simpa using h, by omega⟩
  | o :: r, 1, j, v, w, h => by
    match j, h with
    | 0, h =>
      simp [stB] at h
      obtain ⟨h1, h2⟩ := dropL_some h
      exact Or.inr ⟨by omega, by omega, by simp [h1], by omega⟩
    | j + 1, h =>
      simp [stB] at h
      rcases stB_at r 0 j v w h with ⟨h1, h2⟩ | ⟨h1, h4, h2, h3⟩
      · exact Or.inl ⟨by omega, h2⟩
      · exact Or.inr ⟨by omega, by omega, by simpa using h2, by omega⟩
  | o :: r, i + 2, j, v, w, h => by
    match j, h with
    | 0, h => simp [stB] at h; exact Or.inr ⟨by omega, by omega, by simp [h], by omega⟩
    | j + 1, h =>
      simp [stB] at h
      rcases stB_at r (i + 1) j v w h with ⟨h1, h2⟩ | ⟨h1, h4, h2, h3⟩
      · exact Or.inl ⟨by omega, h2⟩
      · exact Or.inr ⟨by omega, by omega, by simpa using h2, by omega⟩
/-- the locals as the kit has them -/
def lvs (E : mbE) (L : List (Option gV)) : List (Nat × Value) := (List.range L.length).filterMap fun i => match L[i]? with
  | some (some v) => some (i, tv E v)
  | _ => none
theorem lvs_mem {E : mbE} {L : List (Option gV)} {z : Nat × Value} : z ∈ lvs E L ↔ ∃ v, L[z.1]? = some (some v) ∧ z.2 = tv E v := by
  unfold lvs
  rw [List.mem_filterMap]
  constructor
  · rintro ⟨i, hi, h⟩
    split at h
    · rename_i v hv
      cases h
      exact ⟨v, hv, rfl⟩
    · cases h
  · rintro ⟨v, hv, h2⟩
    have hlt := (List.getElem?_eq_some_iff.mp hv).1
    refine ⟨z.1, List.mem_range.mpr hlt, ?_⟩
    rw [hv]
    cases z
    simp at h2
    simp [h2]
theorem lsR.has {E : mbE} {nL : Nat} {L : List (Option gV)} {lsv : Array Slot} (h : lsR E nL L lsv) : lv_has lsv nL (lvs E L) := by
  refine ⟨h.1, h.2.1, fun z hz => ?_⟩
  obtain ⟨v, hv, h2⟩ := lvs_mem.mp hz
  rw [h2]
  exact h.2.2 _ _ hv
theorem lsR.stA {E : mbE} {nL i : Nat} {L : List (Option gV)} {v : gV} {lsv : Array Slot} {X : Value} (hX : X = tv E v) (h : lv_has lsv nL ((i, X) :: (lvs E L).filter (fun z => !(z.1 == i) && !(z.1 + 1 == i && z.2.category == 2)))) : lsR E nL (stA L i v) lsv := by
  subst hX
  refine ⟨h.1, h.2.1, fun j w hw => ?_⟩
  rcases stA_at L i j v w hw with ⟨h1, h2⟩ | ⟨h1, h2, h3⟩
  · subst h1; subst h2
    exact h.2.2 (j, tv E w) List.mem_cons_self
  · refine h.2.2 (j, tv E w) (List.mem_cons_of_mem _ (List.mem_filter.mpr ⟨lvs_mem.mpr ⟨w, h2, rfl⟩, ?_⟩))
    simp only [tv_cat]
    simp [h1]
    by_cases h4 : j + 1 = i
    · exact Or.inr (fun h5 => h3 ⟨h4, h5⟩)
    · exact Or.inl h4
theorem lsR.stB {E : mbE} {nL i : Nat} {L : List (Option gV)} {v : gV} {lsv : Array Slot} {X : Value} (hX : X = tv E v) (h : lv_has lsv nL ((i, X) :: (lvs E L).filter (fun z => !(z.1 == i) && (!(z.1 == i + 1) && !(z.1 + 1 == i && z.2.category == 2))))) : lsR E nL (stB L i v) lsv := by
  subst hX
  refine ⟨h.1, h.2.1, fun j w hw => ?_⟩
  rcases stB_at L i j v w hw with ⟨h1, h2⟩ | ⟨h1, h4, h2, h3⟩
  · subst h1; subst h2
    exact h.2.2 (j, tv E w) List.mem_cons_self
  · refine h.2.2 (j, tv E w) (List.mem_cons_of_mem _ (List.mem_filter.mpr ⟨lvs_mem.mpr ⟨w, h2, rfl⟩, ?_⟩))
    simp only [tv_cat]
    simp [h1, h4]
    by_cases h4 : j + 1 = i
    · exact Or.inr (fun h5 => h3 ⟨h4, h5⟩)
    · exact Or.inl h4
theorem mbR.lsn {K : mbK} {s : State} {E : mbE} {H : Heap} {locs : List Loc} {lsv lsv' : Array Slot} {ls ls' : List (Option gV)} {sh : mbSh} {ct : mbCt} (R : mbR K s E H locs lsv ls sh ct) (h : lsR E K.1.2.2.1 ls' lsv') : mbR K s E H locs lsv' ls' sh ct := ⟨R.1, R.2.1, R.2.2.1, h, R.2.2.2.2⟩
theorem g_istore {x : Int} {i : Nat} {ls' : List (Option gV)} (hd : decode K.1.2.1 pc = .ok (.istore i, 2)) (hi : i < K.1.2.2.1) (hl : stA ls i (.inl x) = ls') (hq : pc + 2 = q) (k : G K q ls' st sh ct) : G K pc ls ((.inl x) :: st) sh ct := by
  subst hq
  subst hl
  intro p l e s m args below meth c E C H locs lsv R
  exact lv_istore C.1 C.2.1 hd R.2.2.2.1.has hi rfl (fun lsv' hl' => k p l e s m args below meth c E C H locs lsv' (R.lsn (lsR.stA rfl hl')))
theorem g_istore_n {x : Int} {i : Fin 4} {ls' : List (Option gV)} (hd : decode K.1.2.1 pc = .ok (.istore_n i, 1)) (hi : i.val < K.1.2.2.1) (hl : stA ls i.val (.inl x) = ls') (hq : pc + 1 = q) (k : G K q ls' st sh ct) : G K pc ls ((.inl x) :: st) sh ct := by
  subst hq
  subst hl
  intro p l e s m args below meth c E C H locs lsv R
  exact lv_istore_n C.1 C.2.1 hd rfl R.2.2.2.1.has hi rfl (fun lsv' hl' => k p l e s m args below meth c E C H locs lsv' (R.lsn (lsR.stA rfl hl')))
theorem g_lstore {x : Int} {i : Nat} {ls' : List (Option gV)} (hd : decode K.1.2.1 pc = .ok (.lstore i, 2)) (hi : i + 1 < K.1.2.2.1) (hl : stB ls i (.inr (.inl x)) = ls') (hq : pc + 2 = q) (k : G K q ls' st sh ct) : G K pc ls ((.inr (.inl x)) :: st) sh ct := by
  subst hq
  subst hl
  intro p l e s m args below meth c E C H locs lsv R
  exact lv_lstore C.1 C.2.1 hd R.2.2.2.1.has hi rfl (fun lsv' hl' => k p l e s m args below meth c E C H locs lsv' (R.lsn (lsR.stB rfl hl')))
theorem g_lstore_n {x : Int} {i : Fin 4} {ls' : List (Option gV)} (hd : decode K.1.2.1 pc = .ok (.lstore_n i, 1)) (hi : i.val + 1 < K.1.2.2.1) (hl : stB ls i.val (.inr (.inl x)) = ls') (hq : pc + 1 = q) (k : G K q ls' st sh ct) : G K pc ls ((.inr (.inl x)) :: st) sh ct := by
  subst hq
  subst hl
  intro p l e s m args below meth c E C H locs lsv R
  exact lv_lstore_n C.1 C.2.1 hd rfl R.2.2.2.1.has hi rfl (fun lsv' hl' => k p l e s m args below meth c E C H locs lsv' (R.lsn (lsR.stB rfl hl')))
theorem g_astore {x : Int} {i : Nat} {ls' : List (Option gV)} (hd : decode K.1.2.1 pc = .ok (.astore i, 2)) (hi : i < K.1.2.2.1) (hl : stA ls i (.inr (.inr x)) = ls') (hq : pc + 2 = q) (k : G K q ls' st sh ct) : G K pc ls (.inr (.inr x) :: st) sh ct := by
  subst hq
  subst hl
  intro p l e s m args below meth c E C H locs lsv R
  show W p l e _ s m args below meth c H locs _ _ _ (F0 m pc lsv (rvE E x :: st.map (tv E)))
  rcases rv_cases E x with h0 | ⟨a, h0⟩
  · rw [h0]
    exact lv_astoreN C.1 C.2.1 hd R.2.2.2.1.has hi rfl (fun lsv' hl' => k p l e s m args below meth c E C H locs lsv' (R.lsn (lsR.stA h0.symm hl')))
  · rw [h0]
    exact lv_astore C.1 C.2.1 hd R.2.2.2.1.has hi rfl (fun lsv' hl' => k p l e s m args below meth c E C H locs lsv' (R.lsn (lsR.stA h0.symm hl')))
theorem g_astore_n {x : Int} {i : Fin 4} {ls' : List (Option gV)} (hd : decode K.1.2.1 pc = .ok (.astore_n i, 1)) (hi : i.val < K.1.2.2.1) (hl : stA ls i.val (.inr (.inr x)) = ls') (hq : pc + 1 = q) (k : G K q ls' st sh ct) : G K pc ls (.inr (.inr x) :: st) sh ct := by
  subst hq
  subst hl
  intro p l e s m args below meth c E C H locs lsv R
  show W p l e _ s m args below meth c H locs _ _ _ (F0 m pc lsv (rvE E x :: st.map (tv E)))
  rcases rv_cases E x with h0 | ⟨a, h0⟩
  · rw [h0]
    exact lv_astore_nN C.1 C.2.1 hd rfl R.2.2.2.1.has hi rfl (fun lsv' hl' => k p l e s m args below meth c E C H locs lsv' (R.lsn (lsR.stA h0.symm hl')))
  · rw [h0]
    exact lv_astore_n C.1 C.2.1 hd rfl R.2.2.2.1.has hi rfl (fun lsv' hl' => k p l e s m args below meth c E C H locs lsv' (R.lsn (lsR.stA h0.symm hl')))
theorem g_iinc {x n : Int} {i : Nat} {ls' : List (Option gV)} (hd : decode K.1.2.1 pc = .ok (.iinc i n, 3)) (hi : i < K.1.2.2.1) (hx : ls[i]? = some (some (.inl x))) (hl : stA ls i (.inl (x + n)) = ls') (hq : pc + 3 = q) (k : G K q ls' st sh ct) : G K pc ls st sh ct := by
  subst hq
  subst hl
  intro p l e s m args below meth c E C H locs lsv R
  obtain ⟨j, hj⟩ := List.getElem?_of_mem (lvs_mem (E := E) (L := ls) (z := (i, .int (Int32.ofInt x))) |>.mpr ⟨.inl x, hx, rfl⟩)
  exact lv_iinc C.1 C.2.1 hd R.2.2.2.1.has hj rfl hi rfl (fun lsv' hl' => k p l e s m args below meth c E C H locs lsv' (R.lsn (lsR.stA (v := .inl (x + n)) (by rw [← Int32.ofInt_add]; rfl) hl')))
/-- the locals seen otherwise: some are forgotten -/
theorem g_ls {ls' : List (Option gV)} (h : ∀ (i : Nat) (v : gV), ls'[i]? = some (some v) → ls[i]? = some (some v)) (k : G K pc ls' st sh ct) : G K pc ls st sh ct := by
  intro p l e s m args below meth c E C H locs lsv R
  exact k p l e s m args below meth c E C H locs lsv (R.lsn ⟨R.2.2.2.1.1, R.2.2.2.1.2.1, fun i v hv => R.2.2.2.1.2.2 i v (h i v hv)⟩)
end MBops
/-! a method's end -/
section MBret
variable {Y : mbY} {d : Nat} {sh shE : mbSh} {ct : mbCt} {Po : Option gV → mbCt → Prop} {pc : Nat} {ls : List (Option gV)}
theorem mb_end {E : mbE} {s : State} {args : Array Value} {H : Heap} {locs : List Loc} {lsv : Array Slot} {sh0 : mbSh} {r : Option gV} (R : mbR (mkK Y d sh0 sh Po) s E H locs lsv ls sh ct) (hp : Po r ct) : ∀ t : State, t.heap = H → s.WarmedH t.vm → mbQ E sh Po args s (.returned (r.map (tv E))) t := by
  intro t ht _
  refine ⟨⟨r, ct, rfl, by rw [ht]; exact R.1, hp⟩, fun q hq => by rw [ht]; exact R.2.1 q hq⟩
theorem g_ireturn {sh0 : mbSh} {x : Int} (hd : decode Y.2.1 pc = .ok (.ireturn, 1)) (hr : Y.2.2.2 = some .int) (hp : Po (some (.inl x)) ct) : G (mkK Y d sh0 sh Po) pc ls [.inl x] sh ct := by
  intro p l e s m args below meth c E C H locs lsv R
  exact W.iret C.1 C.2.1 (C.2.2.2.1.trans hr) (mb_end (r := some (.inl x)) R hp) R.2.2.1 hd (hlocks := C.2.2.2.2.1)
theorem g_zreturn {sh0 : mbSh} {x : Int} (hd : decode Y.2.1 pc = .ok (.ireturn, 1)) {ty : FieldType} (hr : Y.2.2.2 = some ty) (hn : narrow ty (.int (Int32.ofInt x)) = .int (Int32.ofInt x)) (hp : Po (some (.inl x)) ct) : G (mkK Y d sh0 sh Po) pc ls [.inl x] sh ct := by
  intro p l e s m args below meth c E C H locs lsv R
  exact W.zret C.1 C.2.1 (C.2.2.2.1.trans hr) hn (mb_end (r := some (.inl x)) R hp) R.2.2.1 hd (hlocks := C.2.2.2.2.1)
theorem g_lreturn {sh0 : mbSh} {x : Int} (hd : decode Y.2.1 pc = .ok (.lreturn, 1)) (hr : Y.2.2.2 = some .long) (hp : Po (some (.inr (.inl x))) ct) : G (mkK Y d sh0 sh Po) pc ls [.inr (.inl x)] sh ct := by
  intro p l e s m args below meth c E C H locs lsv R
  exact W.lret C.1 C.2.1 (C.2.2.2.1.trans hr) (mb_end (r := some (.inr (.inl x))) R hp) R.2.2.1 hd (hlocks := C.2.2.2.2.1)
theorem g_return {sh0 : mbSh} (hd : decode Y.2.1 pc = .ok (.return_, 1)) (hr : Y.2.2.2 = none) (hp : Po none ct) : G (mkK Y d sh0 sh Po) pc ls [] sh ct := by
  intro p l e s m args below meth c E C H locs lsv R
  exact W.vret C.1 C.2.1 (C.2.2.2.1.trans hr) (mb_end (r := none) R hp) R.2.2.1 hd (hlocks := C.2.2.2.2.1)
end MBret
