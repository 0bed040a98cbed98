/-! the store: reading and writing cells -/
def wr (ct : mbCt) (a k v : Int) : mbCt := fun x j => if x = a ∧ j = k then v else ct x j
def wa (ct : mbCt) (a : Int) (f : Int → Int) : mbCt := fun x j => if x = a then f j else ct x j
theorem cellOk.kept {E : mbE} {kd n a : Nat} {c : Int → Int} {H H1 : Heap} (h : cellOk E kd n c a H) (hq : H1[a]? = H[a]?) : cellOk E kd n c a H1 := by
  rcases h with ⟨h1, h2, h3⟩ | ⟨h1, h2, h3⟩
  · exact Or.inl ⟨h1, h2, h3.kept hq⟩
  · exact Or.inr ⟨h1, h2, hq.trans h3⟩
theorem HR.lt {E : mbE} {sh : mbSh} {ct : mbCt} {H : Heap} (h : HR E sh ct H) {k kd n : Nat} (hk : sh[k]? = some (kd, n)) : E.2.2.1 + k < H.size := by
  have := (List.getElem?_eq_some_iff.mp hk).1
  rw [h.1]
  omega
theorem shA_some {sh : mbSh} {x : Int} {q : Nat × Nat} (h : shA sh x = some q) : ∃ k : Nat, x = k ∧ sh[k]? = some q := by
  unfold shA at h
  split at h
  · rename_i h0
    exact ⟨x.toNat, by omega, h⟩
  · cases h
theorem rv_nat (E : mbE) (k : Nat) : rvE E (k : Int) = .ref (E.2.2.1 + k) := by
  unfold rvE
  rw [if_neg (by omega), if_pos (by omega)]
  rfl
/-- one cell has changed -/
theorem HR.set {E : mbE} {sh : mbSh} {ct ct' : mbCt} {H H1 : Heap} (h : HR E sh ct H) {k kd n : Nat} (hk : sh[k]? = some (kd, n)) (hz : H1.size = H.size) (ho : ∀ q : Nat, q ≠ E.2.2.1 + k → H1[q]? = H[q]?) (hc : cellOk E kd n (ct' k) (E.2.2.1 + k) H1) (hx : ∀ y : Int, y ≠ k → ct' y = ct y) : HR E sh ct' H1 := by
  refine ⟨by rw [hz]; exact h.1, fun j kd' n' hj => ?_⟩
  by_cases e : j = k
  · subst e
    cases hk.symm.trans hj
    exact hc
  · rw [hx j (by omega)]
    exact (h.2 j kd' n' hj).kept (ho _ (by omega))
theorem mbR.set {K : mbK} {s : State} {E : mbE} {H H1 : Heap} {locs locs1 : List Loc} {lsv : Array Slot} {ls : List (Option gV)} {sh : mbSh} {ct ct' : mbCt} (R : mbR K s E H locs lsv ls sh ct) {k kd n : Nat} (hk : sh[k]? = some (kd, n)) (hz : H1.size = H.size) (ho : ∀ q : Nat, q ≠ E.2.2.1 + k → H1[q]? = H[q]?) (hc : cellOk E kd n (ct' k) (E.2.2.1 + k) H1) (hx : ∀ y : Int, y ≠ k → ct' y = ct y) (hl : ∀ q ∈ locs1, E.2.2.1 ≤ q.base) : mbR K s E H1 locs1 lsv ls sh ct' :=
  ⟨R.1.set hk hz ho hc hx, fun q hq => (ho q (by omega)).trans (R.2.1 q hq), hl, R.2.2.2⟩
theorem mb_locs {E : mbE} {locs : List Loc} {k i : Nat} (h : ∀ q ∈ locs, E.2.2.1 ≤ q.base) : ∀ q ∈ locs ++ [⟨E.2.2.1 + k, i⟩], E.2.2.1 ≤ q.base := by
  intro q hq
  rcases List.mem_append.mp hq with h1 | h1
  · exact h q h1
  · rw [List.mem_singleton.mp h1]
    exact Nat.le_add_right _ _
theorem mbCx.si {K : mbK} {p : Program} {s : State} {m : MethodId} {args : Array Value} {meth : Method} {c : Code} {E : mbE} (C : mbCx K p s m args meth c E) : mbSI E s s.heap := C.2.2.2.2.2.2.2.2.1
theorem mbCx.tb {K : mbK} {p : Program} {s : State} {m : MethodId} {args : Array Value} {meth : Method} {c : Code} {E : mbE} (C : mbCx K p s m args meth c E) : ∀ w ∈ mbTB, w.before args s = true := C.2.2.2.2.2.2.2.1
theorem mbCx.own {K : mbK} {p : Program} {s : State} {m : MethodId} {args : Array Value} {meth : Method} {c : Code} {E : mbE} (C : mbCx K p s m args meth c E) : s.vm.findClass K.1.1.cls = some m.cls := C.2.2.2.2.2.2.1
section MBstore
variable {K : mbK} {pc q : Nat} {ls : List (Option gV)} {st : List gV} {sh : mbSh} {ct : mbCt}
theorem g_get {x : Int} {idx kd n k : Nat} {ty : FieldType} {fin : Bool} {v : gV} {kI : Int} (hf : fdOk K.1.1.cls idx kd k ty fin) (hs : shA sh x = some (kd, n)) (hd : decode K.1.2.1 pc = .ok (.getfield idx, 3)) (hk : (k : Int) = kI) (hv : fV ty (ct x kI) = v) (hq : pc + 3 = q) (kk : G K q ls (v :: st) sh ct) : G K pc ls (.inr (.inr x) :: st) sh ct := by
  subst hq; subst hv; subst hk
  intro p l e s m args below meth c E C H locs lsv R
  have h := kk p l e s m args below meth c E C H locs lsv R
  obtain ⟨j, rfl, hj⟩ := shA_some hs
  obtain ⟨CC, T, N, ⟨c1, c2, c3, c4, c5⟩, hkN, hw, hty, hfin, hdc⟩ := hf
  show W p l e _ s m args below meth c H locs _ _ _ (F0 m pc lsv (rvE E j :: st.map (tv E)))
  rw [rv_nat]
  rcases R.1.2 j kd n hj with ⟨-, ⟨r, r1, r2⟩, hob⟩ | ⟨h20, -, -⟩
  · cases c1.symm.trans r1
    subst r2
    have hP : va_P E.1 mbCl [(E.2.2.1 + j, .inr (kd, (List.range N).map (fun i => fv E (tyOf kd i) (ct j i))))] H := by
      intro i z hz
      match i, hz with
      | 0, hz =>
        cases hz
        refine ⟨_, c1, hob.to (fun i hi => ?_)⟩
        simp [vp_V, hi]
      | i + 1, hz => simp at hz
    refine va_get (v := fv E ty (ct j k)) C.1 C.2.1 C.tb c3 C.own C.si.1 hP 0 rfl c1 k hkN (C.tb _ hw) (fun _ hx => hx) ?_ hd ?_
    · simp [hkN, hty]
    · rw [List.map_cons, tv_fV] at h
      exact h
  · omega
theorem g_getI {x : Int} {idx kd n k : Nat} {fin : Bool} {kI : Int} (hf : fdOk K.1.1.cls idx kd k .int fin) (hs : shA sh x = some (kd, n)) (hd : decode K.1.2.1 pc = .ok (.getfield idx, 3)) (hk : (k : Int) = kI) (hq : pc + 3 = q) (kk : G K q ls (.inl (ct x kI) :: st) sh ct) : G K pc ls (.inr (.inr x) :: st) sh ct := g_get hf hs hd hk rfl hq kk
theorem g_getZ {x : Int} {idx kd n k : Nat} {fin : Bool} {kI : Int} (hf : fdOk K.1.1.cls idx kd k .boolean fin) (hs : shA sh x = some (kd, n)) (hd : decode K.1.2.1 pc = .ok (.getfield idx, 3)) (hk : (k : Int) = kI) (hq : pc + 3 = q) (kk : G K q ls (.inl (ct x kI) :: st) sh ct) : G K pc ls (.inr (.inr x) :: st) sh ct := g_get hf hs hd hk rfl hq kk
theorem g_getJ {x : Int} {idx kd n k : Nat} {fin : Bool} {kI : Int} (hf : fdOk K.1.1.cls idx kd k .long fin) (hs : shA sh x = some (kd, n)) (hd : decode K.1.2.1 pc = .ok (.getfield idx, 3)) (hk : (k : Int) = kI) (hq : pc + 3 = q) (kk : G K q ls (.inr (.inl (ct x kI)) :: st) sh ct) : G K pc ls (.inr (.inr x) :: st) sh ct := g_get hf hs hd hk rfl hq kk
theorem g_getA {x : Int} {idx kd n k : Nat} {ty : FieldType} {fin : Bool} {kI : Int} (hf : fdOk K.1.1.cls idx kd k (.array ty) fin) (hs : shA sh x = some (kd, n)) (hd : decode K.1.2.1 pc = .ok (.getfield idx, 3)) (hk : (k : Int) = kI) (hq : pc + 3 = q) {z : Int} (hz : ct x kI = z) (kk : G K q ls (.inr (.inr z) :: st) sh ct) : G K pc ls (.inr (.inr x) :: st) sh ct := by
  subst hz
  exact g_get hf hs hd hk rfl hq kk
theorem g_getO {x : Int} {idx kd n k : Nat} {cn : String} {fin : Bool} {kI : Int} (hf : fdOk K.1.1.cls idx kd k (.object cn) fin) (hs : shA sh x = some (kd, n)) (hd : decode K.1.2.1 pc = .ok (.getfield idx, 3)) (hk : (k : Int) = kI) (hq : pc + 3 = q) {z : Int} (hz : ct x kI = z) (kk : G K q ls (.inr (.inr z) :: st) sh ct) : G K pc ls (.inr (.inr x) :: st) sh ct := by
  subst hz
  exact g_get hf hs hd hk rfl hq kk
/-- a number that a field of a type can hold as it is -/
def okF (ty : FieldType) (z : Int) : Prop := ∀ E : mbE, narrow ty (fv E ty z) = fv E ty z ∧ fits ty (fv E ty z) = true
theorem okF_int (z : Int) : okF .int z := fun _ => ⟨rfl, rfl⟩
theorem okF_long (z : Int) : okF .long z := fun _ => ⟨rfl, rfl⟩
theorem okF_obj (cn : String) (z : Int) : okF (.object cn) z := fun E => by
  show narrow (.object cn) (rvE E z) = rvE E z ∧ fits (.object cn) (rvE E z) = true
  rcases rv_cases E z with h | ⟨a, h⟩ <;> rw [h] <;> exact ⟨rfl, rfl⟩
theorem okF_arr (t : FieldType) (z : Int) : okF (.array t) z := fun E => by
  show narrow (.array t) (rvE E z) = rvE E z ∧ fits (.array t) (rvE E z) = true
  rcases rv_cases E z with h | ⟨a, h⟩ <;> rw [h] <;> exact ⟨rfl, rfl⟩
theorem okF_bool {z : Int} (h : z = 0 ∨ z = 1) : okF .boolean z := fun E => by
  rcases h with rfl | rfl
  · show narrow .boolean (.int (Int32.ofInt 0)) = .int (Int32.ofInt 0) ∧ fits .boolean (.int (Int32.ofInt 0)) = true
    decide +kernel
  · show narrow .boolean (.int (Int32.ofInt 1)) = .int (Int32.ofInt 1) ∧ fits .boolean (.int (Int32.ofInt 1)) = true
    decide +kernel
theorem wr_other (ct : mbCt) (a k v : Int) : ∀ y : Int, y ≠ a → wr ct a k v y = ct y := fun y hy => by
  funext j
  simp [wr, hy]
theorem wa_other (ct : mbCt) (a : Int) (f : Int → Int) : ∀ y : Int, y ≠ a → wa ct a f y = ct y := fun y hy => by
  funext j
  simp [wa, hy]
theorem g_put0 {x z : Int} {idx kd n k : Nat} {ty : FieldType} {fin : Bool} {kI : Int} (hfin : fin = false ∨ (K.1.1.name = "<init>" ∧ ∃ r, mbCl[kd]? = some r ∧ r.1 = K.1.1.cls)) (hf : fdOk K.1.1.cls idx kd k ty fin) (hs : shA sh x = some (kd, n)) (ho : okF ty z) (hd : decode K.1.2.1 pc = .ok (.putfield idx, 3)) (hk : (k : Int) = kI) (hq : pc + 3 = q) (kk : G K q ls st sh (wr ct x kI z)) : G K pc ls (fV ty z :: .inr (.inr x) :: st) sh ct := by
  subst hq; subst hk
  intro p l e s m args below meth c E C H locs lsv R
  obtain ⟨j, rfl, hj⟩ := shA_some hs
  obtain ⟨CC, T, N, ⟨c1, c2, c3, c4, c5⟩, hkN, hw, hty, hfi, hdc⟩ := hf
  rw [List.map_cons, List.map_cons, tv_fV]
  show W p l e _ s m args below meth c H locs _ _ _ (F0 m pc lsv (fv E ty z :: rvE E j :: st.map (tv E)))
  rw [rv_nat]
  rcases R.1.2 j kd n hj with ⟨-, ⟨r, r1, r2⟩, hob⟩ | ⟨h20, -, -⟩
  · cases c1.symm.trans r1
    subst r2
    have hts := C.tb
    have hK := C.si.1
    have hap := va_apart (own := K.1.1.cls) hts c3 (tyOf kd) c4 c5 hK c1
    obtain ⟨cell, q1, q2, q3, q4⟩ := hob
    obtain ⟨hS, hfc, kC, hkC, hkind⟩ := hK.1 kd _ c1
    obtain ⟨cf, kf, fi, f, hi, hsl⟩ := hS k hkN
    have hlay := hts _ (c3 _ (u_in_lay hkN))
    have hst := (u_facts hfc hkC (u_lays hts c3 hkN) hi).1
    have hd2 := c4 k hkN
    rw [hty] at hd2
    have h6 := u_fits hfc hkC hkind (u_lays hts c3 hkN) hi hd2 (ho E).1 (ho E).2
    have hfn : hasFlag f.accessFlags Acc.final = false ∨ (m.cls = cf ∧ meth.name = "<init>") := by
      rcases hfin with h0 | ⟨h0, r, hr1, hr2⟩
      · left
        rw [h0] at hfi
        have hlay2 := hlay
        unfold u_lay at hlay2
        rw [if_neg (by rw [hfi]; decide)] at hlay2
        exact (u_store hfc hkC hkind hlay2 hi hd2 (ho E).1 (ho E).2).1
      · by_cases hb : (T k).2.2.2 = true
        · right
          refine ⟨?_, C.2.2.2.2.2.1.trans h0⟩
          unfold u_lay at hlay
          rw [if_pos hb] at hlay
          obtain ⟨_, _, c', _, _, _, -, -, hf', -, -, -, hown2, -⟩ := Cond.laysFinal_spec hlay
          have e1 : c' = cf := by have := hi.symm.trans hf'; simp at this; exact this.1.symm
          rw [hdc] at hown2
          have e2 : r.1 = CC := by
            have h9 := hr1.symm.trans c1
            rw [Option.some.inj h9]
          rw [← e1]
          have e3 : s.vm.findClass CC = some m.cls := by rw [← e2, hr2]; exact C.own
          exact Option.some.inj (e3.symm.trans hown2)
        · left
          have hlay2 := hlay
          unfold u_lay at hlay2
          rw [if_neg hb] at hlay2
          exact (u_store hfc hkC hkind hlay2 hi hd2 (ho E).1 (ho E).2).1
    have ha : E.2.2.1 + j < H.size := (Array.getElem?_eq_some_iff.mp q1).1
    refine W.putf C.1 C.2.1 C.own (C.tb _ hw) hi hst hfn q1 (by rw [q3]; exact fun h => by cases h) (by rw [hsl]; exact k2_hasslot (q4 k hkN)) h6.1 (by rw [q2, q3]; exact h6.2) rfl rfl hd ?_
    refine kk p l e s m args below meth c E C _ _ lsv (R.set hj ?_ ?_ ?_ (wr_other ct _ _ _) (mb_locs R.2.2.1))
    · simp
    · intro q hq
      simp [Array.getElem?_setIfInBounds, Ne.symm hq]
    · refine Or.inl ⟨c2, ⟨_, c1, rfl⟩, ?_⟩
      refine t_OB.to (V := updV (fun i => fv E (tyOf kd i) (ct j i)) k (fv E ty z)) ⟨cell.setSlot f.slot (fv E ty z), ?_, q2, q3, ?_⟩ (fun i hi => ?_)
      · simp [Array.getElem?_setIfInBounds, ha]
      · rw [hsl]
        exact t_set q4 hap hkN _
      · unfold updV
        by_cases e : i = k
        · subst e
          simp [wr, hty]
        · have e' : wr ct j k z j i = ct j i := by
            unfold wr
            rw [if_neg (by omega)]
          rw [e', if_neg e]
  · omega
theorem g_putI {x z : Int} {idx kd n k : Nat} {kI : Int} (hf : fdOk K.1.1.cls idx kd k .int false) (hs : shA sh x = some (kd, n)) (hd : decode K.1.2.1 pc = .ok (.putfield idx, 3)) (hk : (k : Int) = kI) (hq : pc + 3 = q) (kk : G K q ls st sh (wr ct x kI z)) : G K pc ls (.inl z :: .inr (.inr x) :: st) sh ct := g_put0 (Or.inl rfl) hf hs (okF_int z) hd hk hq kk
theorem g_putJ {x z : Int} {idx kd n k : Nat} {kI : Int} (hf : fdOk K.1.1.cls idx kd k .long false) (hs : shA sh x = some (kd, n)) (hd : decode K.1.2.1 pc = .ok (.putfield idx, 3)) (hk : (k : Int) = kI) (hq : pc + 3 = q) (kk : G K q ls st sh (wr ct x kI z)) : G K pc ls (.inr (.inl z) :: .inr (.inr x) :: st) sh ct := g_put0 (Or.inl rfl) hf hs (okF_long z) hd hk hq kk
theorem g_putZ {x z : Int} {idx kd n k : Nat} {kI : Int} (hf : fdOk K.1.1.cls idx kd k .boolean false) (hs : shA sh x = some (kd, n)) (hz : z = 0 ∨ z = 1) (hd : decode K.1.2.1 pc = .ok (.putfield idx, 3)) (hk : (k : Int) = kI) (hq : pc + 3 = q) (kk : G K q ls st sh (wr ct x kI z)) : G K pc ls (.inl z :: .inr (.inr x) :: st) sh ct := g_put0 (Or.inl rfl) hf hs (okF_bool hz) hd hk hq kk
theorem g_putO {x z : Int} {idx kd n k : Nat} {cn : String} {kI : Int} (hf : fdOk K.1.1.cls idx kd k (.object cn) false) (hs : shA sh x = some (kd, n)) (hd : decode K.1.2.1 pc = .ok (.putfield idx, 3)) (hk : (k : Int) = kI) (hq : pc + 3 = q) (kk : G K q ls st sh (wr ct x kI z)) : G K pc ls (.inr (.inr z) :: .inr (.inr x) :: st) sh ct := g_put0 (Or.inl rfl) hf hs (okF_obj cn z) hd hk hq kk
theorem g_putA {x z : Int} {idx kd n k : Nat} {t : FieldType} {kI : Int} (hf : fdOk K.1.1.cls idx kd k (.array t) false) (hs : shA sh x = some (kd, n)) (hd : decode K.1.2.1 pc = .ok (.putfield idx, 3)) (hk : (k : Int) = kI) (hq : pc + 3 = q) (kk : G K q ls st sh (wr ct x kI z)) : G K pc ls (.inr (.inr z) :: .inr (.inr x) :: st) sh ct := g_put0 (Or.inl rfl) hf hs (okF_arr t z) hd hk hq kk
/-- in a constructor: fields of its own class, final ones too -/
theorem g_putOF {x z : Int} {idx kd n k : Nat} {cn : String} {fin : Bool} {kI : Int} {r : vw_C} (hi : K.1.1.name = "<init>") (hr : mbCl[kd]? = some r) (hr2 : r.1 = K.1.1.cls) (hf : fdOk K.1.1.cls idx kd k (.object cn) fin) (hs : shA sh x = some (kd, n)) (hd : decode K.1.2.1 pc = .ok (.putfield idx, 3)) (hk : (k : Int) = kI) (hq : pc + 3 = q) (kk : G K q ls st sh (wr ct x kI z)) : G K pc ls (.inr (.inr z) :: .inr (.inr x) :: st) sh ct := g_put0 (Or.inr ⟨hi, r, hr, hr2⟩) hf hs (okF_obj cn z) hd hk hq kk
theorem g_putAF {x z : Int} {idx kd n k : Nat} {t : FieldType} {fin : Bool} {kI : Int} {r : vw_C} (hi : K.1.1.name = "<init>") (hr : mbCl[kd]? = some r) (hr2 : r.1 = K.1.1.cls) (hf : fdOk K.1.1.cls idx kd k (.array t) fin) (hs : shA sh x = some (kd, n)) (hd : decode K.1.2.1 pc = .ok (.putfield idx, 3)) (hk : (k : Int) = kI) (hq : pc + 3 = q) (kk : G K q ls st sh (wr ct x kI z)) : G K pc ls (.inr (.inr z) :: .inr (.inr x) :: st) sh ct := g_put0 (Or.inr ⟨hi, r, hr, hr2⟩) hf hs (okF_arr t z) hd hk hq kk
end MBstore
