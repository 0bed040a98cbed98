/-! rows -/
theorem mb_arr {E : mbE} {s : State} (h : va_K E.1 mbCl (mbTys E.2.1) s) {kd : Nat} (h1 : 20 ≤ kd) (h2 : kd < 28) : ArrOfT s (E.2.1 kd) (aty kd) ∧ va_RA s (E.2.1 kd) (aty kd) := by
  rcases (show kd = 20 ∨ kd = 21 ∨ kd = 22 ∨ kd = 23 ∨ kd = 24 ∨ kd = 25 ∨ kd = 26 ∨ kd = 27 by omega) with rfl | rfl | rfl | rfl | rfl | rfl | rfl | rfl
  · exact h.2 0 _ rfl
  · exact h.2 1 _ rfl
  · exact h.2 2 _ rfl
  · exact h.2 3 _ rfl
  · exact h.2 4 _ rfl
  · exact h.2 5 _ rfl
  · exact h.2 6 _ rfl
  · exact h.2 7 _ rfl
theorem HR.arr {E : mbE} {sh : mbSh} {ct : mbCt} {H : Heap} (h : HR E sh ct H) {k kd n : Nat} (hk : sh[k]? = some (kd, n)) (h20 : 20 ≤ kd) : kd < 28 ∧ H[E.2.2.1 + k]? = some (arrV (E.2.1 kd) n (fun j => fv E (aty kd) (ct k j))) := by
  rcases h.2 k kd n hk with ⟨h1, -⟩ | ⟨h1, h2, h3⟩
  · omega
  · exact ⟨h2, h3⟩
theorem mb_arrset {E : mbE} {kd n j : Nat} {ct : mbCt} {i z : Int} {H1 : Heap} {v : Value} (h1 : 20 ≤ kd) (h2 : kd < 28) (hi : 0 ≤ i) (hv : v = fv E (aty kd) z) (h : H1[E.2.2.1 + j]? = some ((arrV (E.2.1 kd) n (fun t => fv E (aty kd) (ct j t))).setSlot i.toNat v)) : cellOk E kd n (wr ct j i z j) (E.2.2.1 + j) H1 := by
  refine Or.inr ⟨h1, h2, ?_⟩
  rw [h, arrV_store, hv]
  congr 2
  funext t
  unfold updV wr
  by_cases e : t = i.toNat
  · rw [if_pos e, if_pos (by omega)]
  · rw [if_neg e, if_neg (by omega)]
section MBrows
variable {K : mbK} {pc q : Nat} {ls : List (Option gV)} {st : List gV} {sh : mbSh} {ct : mbCt}
theorem g_iaload {a i : Int} {n : Nat} (hs : shA sh a = some (20, n)) (h0 : 0 ≤ i) (h1 : i < n) (hn : n < 2147483648) (hd : decode K.1.2.1 pc = .ok (.iaload, 1)) (hq : pc + 1 = q) (k : G K q ls (.inl (ct a i) :: st) sh ct) : G K pc ls (.inl i :: .inr (.inr a) :: st) sh ct := by
  subst hq
  intro p l e s m args below meth c E C H locs lsv R
  have h := k p l e s m args below meth c E C H locs lsv R
  obtain ⟨j, rfl, hj⟩ := shA_some hs
  have hw : w32 i = i := w32_id (by omega) (by omega)
  obtain ⟨hin, hcl⟩ := mb_in (i := i) (n := n) (by rw [hw]; exact h0) (by rw [hw]; exact h1)
  rw [hw] at hcl
  show W p l e _ s m args below meth c H locs _ _ _ (F0 m pc lsv (.int (Int32.ofInt i) :: rvE E j :: st.map (tv E)))
  rw [rv_nat]
  refine W.iald (v := .int (Int32.ofInt (ct j i))) C.1 C.2.1 (R.1.arr hj (by decide)).2 ((mb_arr C.si.1 (kd := 20) (by decide) (by decide)).1 n _) (fun z => by cases z) (by rw [arrV_size]; exact hin) ?_ rfl rfl hd h
  rw [hcl, arrV_read _ _ (by omega)]
  show some (Value.int (Int32.ofInt (ct j ((i.toNat : Nat) : Int)))) = _
  rw [Int.toNat_of_nonneg h0]
theorem g_laload {a i : Int} {n : Nat} (hs : shA sh a = some (21, n)) (h0 : 0 ≤ i) (h1 : i < n) (hn : n < 2147483648) (hd : decode K.1.2.1 pc = .ok (.laload, 1)) (hq : pc + 1 = q) (k : G K q ls (.inr (.inl (ct a i)) :: st) sh ct) : G K pc ls (.inl i :: .inr (.inr a) :: st) sh ct := by
  subst hq
  intro p l e s m args below meth c E C H locs lsv R
  have h := k p l e s m args below meth c E C H locs lsv R
  obtain ⟨j, rfl, hj⟩ := shA_some hs
  have hw : w32 i = i := w32_id (by omega) (by omega)
  obtain ⟨hin, hcl⟩ := mb_in (i := i) (n := n) (by rw [hw]; exact h0) (by rw [hw]; exact h1)
  rw [hw] at hcl
  show W p l e _ s m args below meth c H locs _ _ _ (F0 m pc lsv (.int (Int32.ofInt i) :: rvE E j :: st.map (tv E)))
  rw [rv_nat]
  refine W.lald (v := .long (Int64.ofInt (ct j i))) C.1 C.2.1 (R.1.arr hj (by decide)).2 ((mb_arr C.si.1 (kd := 21) (by decide) (by decide)).1 n _) (fun z => by cases z) (by rw [arrV_size]; exact hin) ?_ rfl rfl hd h
  rw [hcl, arrV_read _ _ (by omega)]
  show some (Value.long (Int64.ofInt (ct j ((i.toNat : Nat) : Int)))) = _
  rw [Int.toNat_of_nonneg h0]
theorem g_baload {a i : Int} {n : Nat} (hs : shA sh a = some (22, n)) (h0 : 0 ≤ i) (h1 : i < n) (hn : n < 2147483648) (hd : decode K.1.2.1 pc = .ok (.baload, 1)) (hq : pc + 1 = q) (k : G K q ls (.inl (ct a i) :: st) sh ct) : G K pc ls (.inl i :: .inr (.inr a) :: st) sh ct := by
  subst hq
  intro p l e s m args below meth c E C H locs lsv R
  have h := k p l e s m args below meth c E C H locs lsv R
  obtain ⟨j, rfl, hj⟩ := shA_some hs
  have hw : w32 i = i := w32_id (by omega) (by omega)
  obtain ⟨hin, hcl⟩ := mb_in (i := i) (n := n) (by rw [hw]; exact h0) (by rw [hw]; exact h1)
  rw [hw] at hcl
  show W p l e _ s m args below meth c H locs _ _ _ (F0 m pc lsv (.int (Int32.ofInt i) :: rvE E j :: st.map (tv E)))
  rw [rv_nat]
  refine W.bald (v := .int (Int32.ofInt (ct j i))) C.1 C.2.1 (R.1.arr hj (by decide)).2 ((mb_arr C.si.1 (kd := 22) (by decide) (by decide)).1 n _) (fun z => by cases z) (by rw [arrV_size]; exact hin) ?_ rfl rfl hd h
  rw [hcl, arrV_read _ _ (by omega)]
  show some (Value.int (Int32.ofInt (ct j ((i.toNat : Nat) : Int)))) = _
  rw [Int.toNat_of_nonneg h0]
theorem g_zaload {a i : Int} {n : Nat} (hs : shA sh a = some (24, n)) (h0 : 0 ≤ i) (h1 : i < n) (hn : n < 2147483648) (hd : decode K.1.2.1 pc = .ok (.baload, 1)) (hq : pc + 1 = q) (k : G K q ls (.inl (ct a i) :: st) sh ct) : G K pc ls (.inl i :: .inr (.inr a) :: st) sh ct := by
  subst hq
  intro p l e s m args below meth c E C H locs lsv R
  have h := k p l e s m args below meth c E C H locs lsv R
  obtain ⟨j, rfl, hj⟩ := shA_some hs
  have hw : w32 i = i := w32_id (by omega) (by omega)
  obtain ⟨hin, hcl⟩ := mb_in (i := i) (n := n) (by rw [hw]; exact h0) (by rw [hw]; exact h1)
  rw [hw] at hcl
  show W p l e _ s m args below meth c H locs _ _ _ (F0 m pc lsv (.int (Int32.ofInt i) :: rvE E j :: st.map (tv E)))
  rw [rv_nat]
  refine W.zald (v := .int (Int32.ofInt (ct j i))) C.1 C.2.1 (R.1.arr hj (by decide)).2 ((mb_arr C.si.1 (kd := 24) (by decide) (by decide)).1 n _) (fun z => by cases z) (by rw [arrV_size]; exact hin) ?_ rfl rfl hd h
  rw [hcl, arrV_read _ _ (by omega)]
  show some (Value.int (Int32.ofInt (ct j ((i.toNat : Nat) : Int)))) = _
  rw [Int.toNat_of_nonneg h0]
theorem g_saload {a i : Int} {n : Nat} (hs : shA sh a = some (23, n)) (h0 : 0 ≤ i) (h1 : i < n) (hn : n < 2147483648) (hd : decode K.1.2.1 pc = .ok (.saload, 1)) (hq : pc + 1 = q) (k : G K q ls (.inl (ct a i) :: st) sh ct) : G K pc ls (.inl i :: .inr (.inr a) :: st) sh ct := by
  subst hq
  intro p l e s m args below meth c E C H locs lsv R
  have h := k p l e s m args below meth c E C H locs lsv R
  obtain ⟨j, rfl, hj⟩ := shA_some hs
  have hw : w32 i = i := w32_id (by omega) (by omega)
  obtain ⟨hin, hcl⟩ := mb_in (i := i) (n := n) (by rw [hw]; exact h0) (by rw [hw]; exact h1)
  rw [hw] at hcl
  show W p l e _ s m args below meth c H locs _ _ _ (F0 m pc lsv (.int (Int32.ofInt i) :: rvE E j :: st.map (tv E)))
  rw [rv_nat]
  refine W.sald (v := .int (Int32.ofInt (ct j i))) C.1 C.2.1 (R.1.arr hj (by decide)).2 ((mb_arr C.si.1 (kd := 23) (by decide) (by decide)).1 n _) (fun z => by cases z) (by rw [arrV_size]; exact hin) ?_ rfl rfl hd h
  rw [hcl, arrV_read _ _ (by omega)]
  show some (Value.int (Int32.ofInt (ct j ((i.toNat : Nat) : Int)))) = _
  rw [Int.toNat_of_nonneg h0]
theorem g_aaload {a i z : Int} {kd n : Nat} (hs : shA sh a = some (kd, n)) (hk : 25 ≤ kd) (h0 : 0 ≤ i) (h1 : i < n) (hn : n < 2147483648) (hz : ct a i = z) (hd : decode K.1.2.1 pc = .ok (.aaload, 1)) (hq : pc + 1 = q) (k : G K q ls (.inr (.inr z) :: st) sh ct) : G K pc ls (.inl i :: .inr (.inr a) :: st) sh ct := by
  subst hq; subst hz
  intro p l e s m args below meth c E C H locs lsv R
  have h := k p l e s m args below meth c E C H locs lsv R
  obtain ⟨j, rfl, hj⟩ := shA_some hs
  have hw : w32 i = i := w32_id (by omega) (by omega)
  obtain ⟨hin, hcl⟩ := mb_in (i := i) (n := n) (by rw [hw]; exact h0) (by rw [hw]; exact h1)
  rw [hw] at hcl
  obtain ⟨h28, hcell⟩ := R.1.arr hj (by omega)
  have hty : ∃ cn, aty kd = .object cn := by
    rcases (show kd = 25 ∨ kd = 26 ∨ kd = 27 by omega) with rfl | rfl | rfl <;> exact ⟨_, rfl⟩
  obtain ⟨cn, hty⟩ := hty
  show W p l e _ s m args below meth c H locs _ _ _ (F0 m pc lsv (.int (Int32.ofInt i) :: rvE E j :: st.map (tv E)))
  rw [rv_nat]
  refine W.aald (v := rvE E (ct j i)) (ty := .object cn) C.1 C.2.1 hcell (by rw [← hty]; exact (mb_arr C.si.1 (by omega) h28).1 n _) rfl (fun z => by cases z) (by rw [arrV_size]; exact hin) ?_ rfl rfl hd h
  rw [hcl, arrV_read _ _ (by omega), hty]
  show some (rvE E (ct j ((i.toNat : Nat) : Int))) = _
  rw [Int.toNat_of_nonneg h0]
theorem g_iastore {a i z : Int} {n : Nat} (hs : shA sh a = some (20, n)) (h0 : 0 ≤ i) (h1 : i < n) (hn : n < 2147483648) (hd : decode K.1.2.1 pc = .ok (.iastore, 1)) (hq : pc + 1 = q) (k : G K q ls st sh (wr ct a i z)) : G K pc ls (.inl z :: .inl i :: .inr (.inr a) :: st) sh ct := by
  subst hq
  intro p l e s m args below meth c E C H locs lsv R
  obtain ⟨j, rfl, hj⟩ := shA_some hs
  have hw : w32 i = i := w32_id (by omega) (by omega)
  obtain ⟨hin, hcl⟩ := mb_in (i := i) (n := n) (by rw [hw]; exact h0) (by rw [hw]; exact h1)
  rw [hw] at hcl
  show W p l e _ s m args below meth c H locs _ _ _ (F0 m pc lsv (_ :: .int (Int32.ofInt i) :: rvE E j :: st.map (tv E)))
  rw [rv_nat]
  refine W.iast C.1 C.2.1 (R.1.arr hj (by decide)).2 ((mb_arr C.si.1 (kd := 20) (by decide) (by decide)).1 n _) (fun z => by cases z) (by rw [arrV_size]; exact hin) rfl rfl hd (fun H1 e1 z1 o1 => ?_)
  rw [hcl] at e1 ⊢
  exact k p l e s m args below meth c E C H1 _ lsv (R.set hj z1 o1 (mb_arrset (by decide) (by decide) h0 rfl e1) (wr_other ct _ _ _) (mb_locs R.2.2.1))
theorem g_lastore {a i z : Int} {n : Nat} (hs : shA sh a = some (21, n)) (h0 : 0 ≤ i) (h1 : i < n) (hn : n < 2147483648) (hd : decode K.1.2.1 pc = .ok (.lastore, 1)) (hq : pc + 1 = q) (k : G K q ls st sh (wr ct a i z)) : G K pc ls (.inr (.inl z) :: .inl i :: .inr (.inr a) :: st) sh ct := by
  subst hq
  intro p l e s m args below meth c E C H locs lsv R
  obtain ⟨j, rfl, hj⟩ := shA_some hs
  have hw : w32 i = i := w32_id (by omega) (by omega)
  obtain ⟨hin, hcl⟩ := mb_in (i := i) (n := n) (by rw [hw]; exact h0) (by rw [hw]; exact h1)
  rw [hw] at hcl
  show W p l e _ s m args below meth c H locs _ _ _ (F0 m pc lsv (_ :: .int (Int32.ofInt i) :: rvE E j :: st.map (tv E)))
  rw [rv_nat]
  refine W.last C.1 C.2.1 (R.1.arr hj (by decide)).2 ((mb_arr C.si.1 (kd := 21) (by decide) (by decide)).1 n _) (fun z => by cases z) (by rw [arrV_size]; exact hin) rfl rfl hd (fun H1 e1 z1 o1 => ?_)
  rw [hcl] at e1 ⊢
  exact k p l e s m args below meth c E C H1 _ lsv (R.set hj z1 o1 (mb_arrset (by decide) (by decide) h0 rfl e1) (wr_other ct _ _ _) (mb_locs R.2.2.1))
theorem g_bastore {a i z : Int} {n : Nat} (hs : shA sh a = some (22, n)) (h0 : 0 ≤ i) (h1 : i < n) (hn : n < 2147483648) (hd : decode K.1.2.1 pc = .ok (.bastore, 1)) (hq : pc + 1 = q) (k : G K q ls st sh (wr ct a i (w8 z))) : G K pc ls (.inl z :: .inl i :: .inr (.inr a) :: st) sh ct := by
  subst hq
  intro p l e s m args below meth c E C H locs lsv R
  obtain ⟨j, rfl, hj⟩ := shA_some hs
  have hw : w32 i = i := w32_id (by omega) (by omega)
  obtain ⟨hin, hcl⟩ := mb_in (i := i) (n := n) (by rw [hw]; exact h0) (by rw [hw]; exact h1)
  rw [hw] at hcl
  show W p l e _ s m args below meth c H locs _ _ _ (F0 m pc lsv (_ :: .int (Int32.ofInt i) :: rvE E j :: st.map (tv E)))
  rw [rv_nat]
  refine W.bast C.1 C.2.1 (R.1.arr hj (by decide)).2 ((mb_arr C.si.1 (kd := 22) (by decide) (by decide)).1 n _) (fun z => by cases z) (by rw [arrV_size]; exact hin) rfl rfl hd (fun H1 e1 z1 o1 => ?_)
  rw [hcl] at e1 ⊢
  exact k p l e s m args below meth c E C H1 _ lsv (R.set hj z1 o1 (mb_arrset (by decide) (by decide) h0 (by rw [narrow_byte, mb_i2b]; rfl) e1) (wr_other ct _ _ _) (mb_locs R.2.2.1))
theorem g_sastore {a i z : Int} {n : Nat} (hs : shA sh a = some (23, n)) (h0 : 0 ≤ i) (h1 : i < n) (hn : n < 2147483648) (hd : decode K.1.2.1 pc = .ok (.sastore, 1)) (hq : pc + 1 = q) (k : G K q ls st sh (wr ct a i (w16 z))) : G K pc ls (.inl z :: .inl i :: .inr (.inr a) :: st) sh ct := by
  subst hq
  intro p l e s m args below meth c E C H locs lsv R
  obtain ⟨j, rfl, hj⟩ := shA_some hs
  have hw : w32 i = i := w32_id (by omega) (by omega)
  obtain ⟨hin, hcl⟩ := mb_in (i := i) (n := n) (by rw [hw]; exact h0) (by rw [hw]; exact h1)
  rw [hw] at hcl
  show W p l e _ s m args below meth c H locs _ _ _ (F0 m pc lsv (_ :: .int (Int32.ofInt i) :: rvE E j :: st.map (tv E)))
  rw [rv_nat]
  refine W.sast C.1 C.2.1 (R.1.arr hj (by decide)).2 ((mb_arr C.si.1 (kd := 23) (by decide) (by decide)).1 n _) (fun z => by cases z) (by rw [arrV_size]; exact hin) rfl rfl hd (fun H1 e1 z1 o1 => ?_)
  rw [hcl] at e1 ⊢
  exact k p l e s m args below meth c E C H1 _ lsv (R.set hj z1 o1 (mb_arrset (by decide) (by decide) h0 (by rw [narrow_short, mb_i2s]; rfl) e1) (wr_other ct _ _ _) (mb_locs R.2.2.1))
theorem g_zastore {a i z : Int} {n : Nat} (hs : shA sh a = some (24, n)) (hz : z = 0 ∨ z = 1) (h0 : 0 ≤ i) (h1 : i < n) (hn : n < 2147483648) (hd : decode K.1.2.1 pc = .ok (.bastore, 1)) (hq : pc + 1 = q) (k : G K q ls st sh (wr ct a i z)) : G K pc ls (.inl z :: .inl i :: .inr (.inr a) :: st) sh ct := by
  subst hq
  intro p l e s m args below meth c E C H locs lsv R
  obtain ⟨j, rfl, hj⟩ := shA_some hs
  have hw : w32 i = i := w32_id (by omega) (by omega)
  obtain ⟨hin, hcl⟩ := mb_in (i := i) (n := n) (by rw [hw]; exact h0) (by rw [hw]; exact h1)
  rw [hw] at hcl
  have hz2 : narrow .boolean (.int (Int32.ofInt z)) = fv E .boolean z := (okF_bool hz E).1
  show W p l e _ s m args below meth c H locs _ _ _ (F0 m pc lsv (_ :: .int (Int32.ofInt i) :: rvE E j :: st.map (tv E)))
  rw [rv_nat]
  refine W.zast C.1 C.2.1 (R.1.arr hj (by decide)).2 ((mb_arr C.si.1 (kd := 24) (by decide) (by decide)).1 n _) (fun z => by cases z) (by rw [arrV_size]; exact hin) rfl rfl hd (fun H1 e1 z1 o1 => ?_)
  rw [hcl] at e1 ⊢
  exact k p l e s m args below meth c E C H1 _ lsv (R.set hj z1 o1 (mb_arrset (by decide) (by decide) h0 (hz2) e1) (wr_other ct _ _ _) (mb_locs R.2.2.1))
/-- a cell of a class is laid into a row of that class -/
theorem g_aastore {a i z : Int} {kd kc n nc : Nat} {r : vw_C} (hs : shA sh a = some (kd, n)) (hz : shA sh z = some (kc, nc)) (hk : 25 ≤ kd) (hc : mbCl[kc]? = some r) (hkc : kc < 20) (hty : aty kd = .object r.1) (h0 : 0 ≤ i) (h1 : i < n) (hn : n < 2147483648) (hd : decode K.1.2.1 pc = .ok (.aastore, 1)) (hq : pc + 1 = q) (k : G K q ls st sh (wr ct a i z)) : G K pc ls (.inr (.inr z) :: .inl i :: .inr (.inr a) :: st) sh ct := by
  subst hq
  intro p l e s m args below meth c E C H locs lsv R
  obtain ⟨j, rfl, hj⟩ := shA_some hs
  obtain ⟨j2, rfl, hj2⟩ := shA_some hz
  have hw : w32 i = i := w32_id (by omega) (by omega)
  obtain ⟨hin, hcl⟩ := mb_in (i := i) (n := n) (by rw [hw]; exact h0) (by rw [hw]; exact h1)
  rw [hw] at hcl
  obtain ⟨h28, hcell⟩ := R.1.arr hj (by omega)
  show W p l e _ s m args below meth c H locs _ _ _ (F0 m pc lsv (rvE E j2 :: .int (Int32.ofInt i) :: rvE E j :: st.map (tv E)))
  rw [rv_nat, rv_nat]
  have hK := C.si.1
  have hcls := (hK.1 kc r hc).2
  have hra := (mb_arr C.si.1 (kd := kd) (by omega) h28).2
  rw [hty] at hra
  obtain ⟨kA, comp, k1, k2, k3, -⟩ := hra
  have hcomp : comp = E.1.1 kc := Option.some.inj (k3.symm.trans hcls.1)
  subst hcomp
  obtain ⟨kC, hkC, -⟩ := hcls.2
  rcases R.1.2 j2 kc nc hj2 with ⟨-, -, cellV, g1, g2, g3, -⟩ | ⟨h20, -⟩
  · refine W.aast C.1 C.2.1 hcell (fun q h => by cases h) (fun h => by cases h) k1 k2 rfl hkC ⟨fun z => hin (Or.inl z), ?_⟩ g1 (fun q h => by rw [g3] at h; cases h) (by rw [g2]; exact hkC) (by rw [g2]; exact va_assign hcls) rfl rfl hd (fun H1 e1 z1 o1 => ?_)
    · rw [hcl, arrV_size]
      omega
    · rw [hcl] at e1 ⊢
      refine k p l e s m args below meth c E C H1 _ lsv (R.set hj z1 o1 (mb_arrset (by omega) h28 h0 ?_ e1) (wr_other ct _ _ _) (mb_locs R.2.2.1))
      rw [hty]
      show _ = rvE E j2
      rw [rv_nat]
  · omega
theorem g_alen {a nI : Int} {kd n : Nat} (hs : shA sh a = some (kd, n)) (h20 : 20 ≤ kd) (hd : decode K.1.2.1 pc = .ok (.arraylength, 1)) (hn : (n : Int) = nI) (hq : pc + 1 = q) (k : G K q ls (.inl nI :: st) sh ct) : G K pc ls (.inr (.inr a) :: st) sh ct := by
  subst hq; subst hn
  intro p l e s m args below meth c E C H locs lsv R
  have h := k p l e s m args below meth c E C H locs lsv R
  obtain ⟨j, rfl, hj⟩ := shA_some hs
  show W p l e _ s m args below meth c H locs _ _ _ (F0 m pc lsv (rvE E j :: st.map (tv E)))
  rw [rv_nat]
  obtain ⟨h28, hcell⟩ := R.1.arr hj h20
  exact W.alen (n := Int32.ofInt n) C.1 C.2.1 hcell ((mb_arr C.si.1 h20 h28).1 n _) (by rw [arrV_size, Int32.ofInt_eq_ofNat] <;> rfl) rfl rfl hd h
/-- what a new place holds -/
def dflt (ty : FieldType) : Int := match ty with
  | .object _ => -1
  | .array _ => -1
  | _ => 0
theorem fv_dflt (E : mbE) {ty : FieldType} (h1 : ty ≠ .float) (h2 : ty ≠ .double) : fv E ty (dflt ty) = defaultValue ty := by
  cases ty <;> first | rfl | (exact absurd rfl h1) | (exact absurd rfl h2)
theorem ssz_push (sh : mbSh) (kd n : Nat) : ssz (sh ++ [(kd, n)]) = ssz sh + n := by simp [ssz]
theorem HR.push {E : mbE} {sh : mbSh} {ct : mbCt} {H H1 : Heap} (h : HR E sh ct H) {kd n : Nat} {f : Int → Int} (hz : H1.size = H.size + 1) (ho : ∀ q : Nat, q < H.size → H1[q]? = H[q]?) (hc : cellOk E kd n f (E.2.2.1 + sh.length) H1) : HR E (sh ++ [(kd, n)]) (wa ct sh.length f) H1 := by
  refine ⟨by rw [hz, h.1, List.length_append]; rfl, fun j kd' n' hj => ?_⟩
  by_cases hl : j < sh.length
  · rw [List.getElem?_append_left hl] at hj
    rw [wa_other _ _ _ _ (by omega)]
    exact (h.2 j kd' n' hj).kept (ho _ (by rw [h.1]; omega))
  · rw [List.getElem?_append_right (by omega)] at hj
    have h0 : j - sh.length < 1 := (List.getElem?_eq_some_iff.mp hj).1
    have e : j = sh.length := by omega
    subst e
    rw [Nat.sub_self] at hj
    cases hj
    have e2 : wa ct sh.length f sh.length = f := by funext t; simp [wa]
    rw [e2]
    exact hc
theorem mbR.push {K : mbK} {s : State} {E : mbE} {H H1 : Heap} {locs : List Loc} {lsv : Array Slot} {ls : List (Option gV)} {sh : mbSh} {ct : mbCt} (R : mbR K s E H locs lsv ls sh ct) {kd n : Nat} {f : Int → Int} (hz : H1.size = H.size + 1) (ho : ∀ q : Nat, q < H.size → H1[q]? = H[q]?) (hc : cellOk E kd n f (E.2.2.1 + sh.length) H1) : mbR K s E H1 locs lsv ls (sh ++ [(kd, n)]) (wa ct sh.length f) := by
  refine ⟨R.1.push hz ho hc, fun q hq => (ho q (by rw [R.1.1]; omega)).trans (R.2.1 q hq), R.2.2.1, R.2.2.2.1, ?_, ?_⟩
  · rw [List.length_append]
    exact Nat.le_trans R.2.2.2.2.1 (Nat.le_add_right _ _)
  · rw [ssz_push]
    exact Nat.le_trans R.2.2.2.2.2 (Nat.le_add_right _ _)
theorem g_newarray {nI idI : Int} {n kd : Nat} {at0 : ArrayType} (h20 : 20 ≤ kd) (h25 : kd < 25) (hty : newarray.typeOf at0 = aty kd) (hw : Cond.arrayClass (aty kd) ∈ mbTB) (hn : nI = n) (hn1 : n ≤ 1000000) (hc : sh.length + 1 - K.2.2.1.length ≤ K.2.1.cells) (hsl : ssz sh + n - ssz K.2.2.1 ≤ K.2.1.slots) (hid : (sh.length : Int) = idI) (hd : decode K.1.2.1 pc = .ok (.newarray at0, 2)) (hq : pc + 2 = q) (k : G K q ls (.inr (.inr idI) :: st) (sh ++ [(kd, n)]) (wa ct idI (fun _ => 0))) : G K pc ls (.inl nI :: st) sh ct := by
  subst hq; subst hid; subst hn
  intro p l e s m args below meth c E C H locs lsv R
  have hwn : w32 (n : Int) = n := w32_id (by omega) (by omega)
  have hcl : (Int32.ofInt (n : Int)).toNatClampNeg = n := by
    show (Int32.ofInt (n : Int)).toInt.toNat = n
    rw [mb_ti, hwn]
    rfl
  have hb8 : componentBytes (newarray.typeOf at0) ≤ 8 := by cases at0 <;> decide
  refine va_newaK (N := n) C.1 C.2.1 (by rw [hty]; exact C.tb _ hw) rfl hd rfl ?_ hcl ?_ ?_ ?_ rfl (fun H1 cA e1 z1 o1 hA hN => ?_)
  · rw [Int32.lt_iff_toInt_lt, mb_ti, hwn]
    have : (0 : Int32).toInt = 0 := rfl
    omega
  · have : n * componentBytes (newarray.typeOf at0) ≤ 1000000 * 8 := Nat.mul_le_mul hn1 hb8
    omega
  · have := R.2.2.2.2.1
    omega
  · have := R.2.2.2.2.2
    omega
  · have hra := (mb_arr C.si.1 h20 (by omega)).2
    have hcA : cA = E.2.1 kd := by
      rw [hty] at hN
      rcases (show kd = 20 ∨ kd = 21 ∨ kd = 22 ∨ kd = 23 ∨ kd = 24 by omega) with rfl | rfl | rfl | rfl | rfl <;> exact Option.some.inj (hN.symm.trans hra)
    subst hcA
    have hdf : ∀ x : Nat, fv E (aty kd) ((fun _ : Int => (0 : Int)) x) = defaultValue (newarray.typeOf at0) := by
      intro x
      rw [hty]
      rcases (show kd = 20 ∨ kd = 21 ∨ kd = 22 ∨ kd = 23 ∨ kd = 24 by omega) with rfl | rfl | rfl | rfl | rfl <;> rfl
    have h := k p l e s m args below meth c E C H1 locs lsv (R.push z1 o1 (Or.inr ⟨h20, by omega, ?_⟩))
    · rw [ssz_push, List.length_append] at h
      have e3 : sh.length + [(kd, n)].length - K.2.2.1.length = sh.length - K.2.2.1.length + 1 := by
        have := R.2.2.2.2.1
        simp
        omega
      have e4 : ssz sh + n - ssz K.2.2.1 = ssz sh - ssz K.2.2.1 + n := by
        have := R.2.2.2.2.2
        omega
      rw [e3, e4] at h
      have e5 : tv E (.inr (.inr (sh.length : Int))) = .ref H.size := by
        show rvE E _ = _
        rw [rv_nat, R.1.1]
      rw [List.map_cons, e5] at h
      exact h
    · rw [← R.1.1, e1]
      exact congrArg some (congrArg (arrV (E.2.1 kd) n) (funext fun x => (hdf x).symm))
theorem g_anewarray {nI idI : Int} {n kd idx : Nat} {cn : String} (hk : 25 ≤ kd) (hk2 : kd < 28) (hty : aty kd = .object cn) (hw : Cond.classLink K.1.1.cls idx cn ∈ mbTB) (hao : cn = RX8 ∨ cn = RX9 ∨ cn = RX2) (hn : nI = n) (hn1 : n ≤ 1000000) (hc : sh.length + 1 - K.2.2.1.length ≤ K.2.1.cells) (hsl : ssz sh + n - ssz K.2.2.1 ≤ K.2.1.slots) (hid : (sh.length : Int) = idI) (hd : decode K.1.2.1 pc = .ok (.anewarray idx, 3)) (hq : pc + 3 = q) (k : G K q ls (.inr (.inr idI) :: st) (sh ++ [(kd, n)]) (wa ct idI (fun _ => -1))) : G K pc ls (.inl nI :: st) sh ct := by
  subst hq; subst hid; subst hn
  intro p l e s m args below meth c E C H locs lsv R
  have hwn : w32 (n : Int) = n := w32_id (by omega) (by omega)
  have hcl : (Int32.ofInt (n : Int)).toNatClampNeg = n := by
    show (Int32.ofInt (n : Int)).toInt.toNat = n
    rw [mb_ti, hwn]
    rfl
  have hov : va_AO cn s := by
    obtain ⟨-, -, -, -, ⟨o1, o2, o3⟩, -⟩ := C.si
    rcases hao with rfl | rfl | rfl
    · exact o1
    · exact o2
    · exact o3
  refine W.anew C.1 C.2.1 C.own (C.tb _ hw) (va_AO.use hov) rfl hd rfl ?_ ?_ ?_ ?_ (fun cA kA comp f1 f2 f3 f4 => ?_)
  · rw [Int32.lt_iff_toInt_lt, mb_ti, hwn]
    have : (0 : Int32).toInt = 0 := rfl
    omega
  · rw [hcl]; omega
  · have := R.2.2.2.2.1
    omega
  · rw [hcl]
    have := R.2.2.2.2.2
    omega
  · have hra := (mb_arr C.si.1 (kd := kd) (by omega) hk2).2
    rw [hty] at hra
    obtain ⟨_, _, -, -, -, hN⟩ := hra
    have hcA : cA = E.2.1 kd := Option.some.inj (f1.symm.trans hN)
    subst hcA
    rw [hcl]
    have h := k p l e s m args below meth c E C (H.push { cls := E.2.1 kd, slots := Array.replicate n .null, vm := .none }) locs lsv (R.push (by rw [Array.size_push]) (fun q hq => by rw [Array.getElem?_push, if_neg (Nat.ne_of_lt hq)]) (Or.inr ⟨by omega, hk2, ?_⟩))
    · rw [ssz_push, List.length_append] at h
      have e3 : sh.length + [(kd, n)].length - K.2.2.1.length = sh.length - K.2.2.1.length + 1 := by
        have := R.2.2.2.2.1
        simp
        omega
      have e4 : ssz sh + n - ssz K.2.2.1 = ssz sh - ssz K.2.2.1 + n := by
        have := R.2.2.2.2.2
        omega
      rw [e3, e4] at h
      have e5 : tv E (.inr (.inr (sh.length : Int))) = .ref H.size := by
        show rvE E _ = _
        rw [rv_nat, R.1.1]
      rw [List.map_cons, e5] at h
      exact h
    · rw [← R.1.1, Array.getElem?_push_size, arrV_new, hty]
      rfl
/-- a new object of a class: its fields are as its class begins them -/
theorem g_new {idI : Int} {kd N idx : Nat} {CC : String} {T : u_T} (hcl : clOk kd CC T N) (hft : ∀ k, k < N → tyOf kd k ≠ .float ∧ tyOf kd k ≠ .double) (hw : Cond.classLink K.1.1.cls idx CC ∈ mbTB) (hin : Cond.instantiable CC N ∈ mbTB) (hii : Cond.initialized CC ∈ mbTB) (hc : sh.length + 1 - K.2.2.1.length ≤ K.2.1.cells) (hsl : ssz sh + N - ssz K.2.2.1 ≤ K.2.1.slots) (hid : (sh.length : Int) = idI) (hd : decode K.1.2.1 pc = .ok (.new idx, 3)) (hq : pc + 3 = q) (k : G K q ls (.inr (.inr idI) :: st) (sh ++ [(kd, N)]) (wa ct idI (fun j => dflt (tyOf kd j.toNat)))) : G K pc ls st sh ct := by
  subst hq; subst hid
  intro p l e s m args below meth c E C H locs lsv R
  obtain ⟨c1, c2, c3, c4, c5⟩ := hcl
  have hKn := C.si.1.1 kd _ c1
  refine W.newcK (n := N) C.1 C.2.1 C.own (C.tb _ hw) (C.tb _ hin) (C.tb _ hii) rfl hd ?_ ?_ hKn.2.1 rfl (fun H1 kC hkC e1 z1 o1 => ?_)
  · have := R.2.2.2.2.1
    omega
  · have := R.2.2.2.2.2
    omega
  · have h := k p l e s m args below meth c E C H1 locs lsv (R.push z1 o1 (Or.inl ⟨c2, ⟨_, c1, rfl⟩, ?_⟩))
    · rw [ssz_push, List.length_append] at h
      have e3 : sh.length + [(kd, N)].length - K.2.2.1.length = sh.length - K.2.2.1.length + 1 := by
        have := R.2.2.2.2.1
        simp
        omega
      have e4 : ssz sh + N - ssz K.2.2.1 = ssz sh - ssz K.2.2.1 + N := by
        have := R.2.2.2.2.2
        omega
      rw [e3, e4] at h
      have e5 : tv E (.inr (.inr (sh.length : Int))) = .ref H.size := by
        show rvE E _ = _
        rw [rv_nat, R.1.1]
      rw [List.map_cons, e5] at h
      exact h
    · rw [← R.1.1]
      refine (u_born (tyOf kd) C.tb c3 hKn hkC e1 c4).to (fun k hk => ?_)
      exact (fv_dflt E (hft k hk).1 (hft k hk).2).symm
end MBrows
