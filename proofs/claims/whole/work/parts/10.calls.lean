/-! calls -/
def shLe (a b : mbSh) : Prop := a.length ≤ b.length ∧ ssz a ≤ ssz b
theorem shLe.rf {a : mbSh} : shLe a a := ⟨Nat.le_refl _, Nat.le_refl _⟩
theorem shLe.tr {a b c : mbSh} (h : shLe a b) (h2 : shLe b c) : shLe a c := ⟨Nat.le_trans h.1 h2.1, Nat.le_trans h.2 h2.2⟩
theorem shLe.app (a b : mbSh) : shLe a (a ++ b) := ⟨by simp, by simp [ssz]⟩
/-- what an answer is: an int, a long, nothing -/
def pI (P : Int → mbCt → Prop) : Option gV → mbCt → Prop := fun r c => ∃ x : Int, r = some (.inl x) ∧ P x c
def pL (P : Int → mbCt → Prop) : Option gV → mbCt → Prop := fun r c => ∃ x : Int, r = some (.inr (.inl x)) ∧ P x c
def pN (P : mbCt → Prop) : Option gV → mbCt → Prop := fun r c => r = none ∧ P c
theorem mb_blind {E : mbE} {sh : mbSh} {ct : mbCt} {av : List Value} : FrameBlind (va_Pc av (mbPre E sh ct)) := fun a U g mk h => ⟨h.1, h.2.1, mbSI.same (s := U) rfl h.2.2⟩
theorem mb_good {Y : mbY} {n : Nat} (h : mtOk Y n) : GoodIn mbTB (mbWs Y) := by
  intro w hw
  have h1 : w ∈ mbTB := by
    rcases List.mem_cons.mp hw with e | e
    · rw [e]; exact h.1
    · exact e
  exact ⟨h1, good_of_word (List.mem_filter.mp h1).2⟩
theorem mb_pre {K : mbK} {s : State} {E : mbE} {H : Heap} {locs : List Loc} {lsv : Array Slot} {ls : List (Option gV)} {sh : mbSh} {ct : mbCt} (R : mbR K s E H locs lsv ls sh ct) (hI : mbSI E s s.heap) (av : List Value) : ∀ U : State, U.heap = H → s.WarmedH U.vm → va_Pc av (mbPre E sh ct) av.toArray U := by
  intro U hU hW
  have hz : E.2.2.1 ≤ H.size := by rw [R.1.1]; exact Nat.le_add_right _ _
  exact ⟨rfl, by rw [hU]; exact R.1, by rw [hU]; exact (hI.kept hz R.2.1).warm hW⟩
theorem mb_callend {K : mbK} {pc : Nat} {ls : List (Option gV)} {st : List gV} {sh sh1 : mbSh} {ct : mbCt} {Po : Option gV → mbCt → Prop} {p : Program} {l : Launch} {e : Env} {s : State} {m : MethodId} {args a : Array Value} {below : List Frame} {meth : Method} {c : Code} {E : mbE} {H : Heap} {locs : List Loc} {lsv : Array Slot} {stk : List Value}
    (C : mbCx K p s m args meth c E) (R : mbR K s E H locs lsv ls sh ct) (hsh : shLe sh sh1) (k : ∀ r ct1, Po r ct1 → G K (pc + 3) ls (r.toList ++ st) sh1 ct1)
    (run : va_Run p l e K.2.1 s m args below meth c H locs (sh.length - K.2.2.1.length) (ssz sh - ssz K.2.2.1) (sh1.length - sh.length) (ssz sh1 - ssz sh) (F0 m pc lsv stk) (st.map (tv E)) (mbQ E sh1 Po a) (mbF E)) :
    W p l e K.2.1 s m args below meth c H locs (sh.length - K.2.2.1.length) (ssz sh - ssz K.2.2.1) (K.2.2.2.1 E below args s) (F0 m pc lsv stk) := by
  intro T hT X
  obtain ⟨v, st₀, t, T', L, h0, X', hL, e1, e2, ⟨⟨r, ct1, hv, hH, hp⟩, hk⟩, stp⟩ := run T hT X
  have hv' : v = r.map (tv E) := Outcome.returned.inj hv
  subst hv'
  have h := k r ct1 hp p l e s m args below meth c E C t.heap (locs ++ L) lsv ⟨hH, fun q hq => (hk q hq).trans (by rw [h0]; exact R.2.1 q hq), fun q hq => ?_, R.2.2.2.1, Nat.le_trans R.2.2.2.2.1 hsh.1, Nat.le_trans R.2.2.2.2.2 hsh.2⟩
  · have c1 : sh1.length - K.2.2.1.length = sh.length - K.2.2.1.length + (sh1.length - sh.length) := by
      have := R.2.2.2.2.1
      have := hsh.1
      omega
    have c2 : ssz sh1 - ssz K.2.2.1 = ssz sh - ssz K.2.2.1 + (ssz sh1 - ssz sh) := by
      have := R.2.2.2.2.2
      have := hsh.2
      omega
    have c3 : (r.toList ++ st).map (tv E) = (r.map (tv E)).toList ++ st.map (tv E) := by cases r <;> rfl
    rw [c1, c2, c3] at h
    obtain ⟨t2, a1, b1⟩ := h T' e1 X'
    exact ⟨t2, stp t2 a1, b1⟩
  · rcases List.mem_append.mp hq with h1 | h1
    · exact R.2.2.1 q h1
    · exact hL q h1
theorem HR.recv {E : mbE} {sh : mbSh} {ct : mbCt} {H : Heap} {s : State} (h : HR E sh ct H) (hK : va_K E.1 mbCl (mbTys E.2.1) s) {j kd n : Nat} {r : vw_C} (hj : sh[j]? = some (kd, n)) (hr : mbCl[kd]? = some r) : ∃ cell : Cell, H[E.2.2.1 + j]? = some cell ∧ cell.vm.isStatics = false ∧ s.vm.findClass r.1 = some cell.cls := by
  rcases h.2 j kd n hj with ⟨-, -, cell, g1, g2, g3, -⟩ | ⟨h20, -⟩
  · exact ⟨cell, g1, by rw [g3]; rfl, by rw [g2]; exact (hK.1 kd r hr).2.1⟩
  · have := (List.getElem?_eq_some_iff.mp hr).1
    simp [mbCl] at this
    omega
/-- the room that a call of the depth d takes -/
def rmOk (K : mbK) (d : Nat) (sh1 : mbSh) : Prop := d + 1 ≤ K.2.1.frames ∧ 64 * (d + 1) ≤ K.2.1.locals ∧ sh1.length - K.2.2.1.length ≤ K.2.1.cells ∧ ssz sh1 - ssz K.2.2.1 ≤ K.2.1.slots
theorem rmOk.mk {Y : mbY} {D d : Nat} {sh0 shE sh1 : mbSh} {Po : Option gV → mbCt → Prop} (h : d + 1 ≤ D) (hs : shLe sh1 shE) : rmOk (mkK Y D sh0 shE Po) d sh1 := by
  refine ⟨h, ?_, ?_, ?_⟩
  · show 64 * (d + 1) ≤ 64 * D
    omega
  · show sh1.length - sh0.length ≤ shE.length - sh0.length
    have := hs.1
    omega
  · show ssz sh1 - ssz sh0 ≤ ssz shE - ssz sh0
    have := hs.2
    omega
section MBcalls
variable {K : mbK} {pc q idx n d : Nat} {ls : List (Option gV)} {st stk as : List gV} {sh sh1 : mbSh} {ct : mbCt} {Po : Option gV → mbCt → Prop} {Y : mbY}
theorem mb_room {E : mbE} {s : State} {H : Heap} {locs : List Loc} {lsv : Array Slot} (R : mbR K s E H locs lsv ls sh ct) (hm : mtOk Y n) (hsh : shLe sh sh1) (hR : rmOk K d sh1) : ((mbRm d sh sh1).frames + 1 ≤ K.2.1.frames ∧ 8 + (Y.2.2.1 + 11) + (mbRm d sh sh1).locals ≤ K.2.1.locals) ∧ sh.length - K.2.2.1.length + (sh1.length - sh.length) ≤ K.2.1.cells ∧ ssz sh - ssz K.2.2.1 + (ssz sh1 - ssz sh) ≤ K.2.1.slots := by
  obtain ⟨r1, r2, r3, r4⟩ := hR
  have h1 := hm.2.2.2
  have h2 := R.2.2.2.2.1
  have h3 := R.2.2.2.2.2
  have h4 := hsh.1
  have h5 := hsh.2
  refine ⟨⟨r1, ?_⟩, ?_, ?_⟩
  · show 8 + (Y.2.2.1 + 11) + 64 * d ≤ _
    omega
  · omega
  · omega
theorem mb_cats (E : mbE) (st : List gV) : (st.map (tv E)).map (fun v => v.category) = st.map gcat := by
  rw [List.map_map]
  apply List.map_congr_left
  intro v _
  exact tv_cat E v
theorem g_callV {a : Int} {kd na : Nat} {r : vw_C} (hl : Cond.methodLink K.1.1.cls idx Y.1 ∈ mbTB) (hm : mtOk Y n) (hi : insOk Y) (hn : as.length = n) (hM : Mt Y d (.inr (.inr a) :: as) sh sh1 ct Po) (hs : shA sh a = some (kd, na)) (hr : mbCl[kd]? = some r) (hr2 : r.1 = Y.1.cls) (hsh : shLe sh sh1) (hR : rmOk K d sh1) (hst : (st.map gcat).sum ≤ 8) (hd : decode K.1.2.1 pc = .ok (.invokevirtual idx, 3)) (hstk : stk = as.reverse ++ .inr (.inr a) :: st) (hq : pc + 3 = q) (k : ∀ r ct1, Po r ct1 → G K q ls (r.toList ++ st) sh1 ct1) : G K pc ls stk sh ct := by
  subst hq; subst hstk
  intro p l e s m args below meth c E C H locs lsv R
  obtain ⟨j, rfl, hj⟩ := shA_some hs
  obtain ⟨hRR, hc, hsl⟩ := mb_room R hm hsh hR
  have e1 : (as.reverse ++ .inr (.inr (j : Int)) :: st).map (tv E) = (as.map (tv E)).reverse ++ .ref (E.2.2.1 + j) :: st.map (tv E) := by
    rw [List.map_append, List.map_cons, List.map_reverse]
    show _ ++ rvE E j :: _ = _
    rw [rv_nat]
  rw [e1]
  have hMt := hM l E
  have e2 : ((.inr (.inr (j : Int)) :: as).map (tv E)) = .ref (E.2.2.1 + j) :: as.map (tv E) := by
    rw [List.map_cons]
    show rvE E j :: _ = _
    rw [rv_nat]
  rw [e2] at hMt
  exact mb_callend C R hsh k (va_runV (As := as.map (tv E)) (C := Y.1.cls) ⟨C.1, C.2.1, C.2.2.1, C.own, C.tb⟩ hMt ⟨callB_of n C.tb (mb_good hm) rfl rfl rfl (C.tb _ hm.2.1) (C.tb _ hl) hm.2.2.1 hRR, C.tb _ hi.1, C.tb _ hi.2⟩ ⟨mb_blind, by rw [← hr2]; exact R.1.recv C.si.1 hj hr, mb_pre R C.si _⟩ rfl (by rw [List.length_map]; exact hn) R.2.2.2.1.1 rfl (lv_room (by rw [mb_cats]; exact hst)) hd ⟨hc, hsl⟩)
theorem g_callS (hl : Cond.methodLink K.1.1.cls idx Y.1 ∈ mbTB) (hm : mtOk Y n) (hi : Cond.static Y.1 ∈ mbTB) (hn : as.length = n) (hM : Mt Y d as sh sh1 ct Po) (hsh : shLe sh sh1) (hR : rmOk K d sh1) (hst : (st.map gcat).sum ≤ 8) (hd : decode K.1.2.1 pc = .ok (.invokestatic idx, 3)) (hstk : stk = as.reverse ++ st) (hq : pc + 3 = q) (k : ∀ r ct1, Po r ct1 → G K q ls (r.toList ++ st) sh1 ct1) : G K pc ls stk sh ct := by
  subst hq; subst hstk
  intro p l e s m args below meth c E C H locs lsv R
  obtain ⟨hRR, hc, hsl⟩ := mb_room R hm hsh hR
  have e1 : (as.reverse ++ st).map (tv E) = (as.map (tv E)).reverse ++ st.map (tv E) := by
    rw [List.map_append, List.map_reverse]
  rw [e1]
  exact mb_callend C R hsh k (va_runS (As := as.map (tv E)) ⟨C.1, C.2.1, C.2.2.1, C.own, C.tb⟩ (hM l E) ⟨callB_of n C.tb (mb_good hm) rfl rfl rfl (C.tb _ hm.2.1) (C.tb _ hl) hm.2.2.1 hRR, C.tb _ hi⟩ ⟨mb_blind, mb_pre R C.si _⟩ rfl (by rw [List.length_map]; exact hn) R.2.2.2.1.1 rfl (lv_room (by rw [mb_cats]; exact hst)) hd ⟨hc, hsl⟩)
theorem g_callSN (hl : Cond.methodLinkNest K.1.1.cls idx Y.1 "MinuteBook" ∈ mbNs) (hm : mtOk Y n) (hi : Cond.static Y.1 ∈ mbTB) (hn : as.length = n) (hM : Mt Y d as sh sh1 ct Po) (hsh : shLe sh sh1) (hR : rmOk K d sh1) (hst : (st.map gcat).sum ≤ 8) (hd : decode K.1.2.1 pc = .ok (.invokestatic idx, 3)) (hstk : stk = as.reverse ++ st) (hq : pc + 3 = q) (k : ∀ r ct1, Po r ct1 → G K q ls (r.toList ++ st) sh1 ct1) : G K pc ls stk sh ct := by
  subst hq; subst hstk
  intro p l e s m args below meth c E C H locs lsv R
  obtain ⟨hRR, hc, hsl⟩ := mb_room R hm hsh hR
  have e1 : (as.reverse ++ st).map (tv E) = (as.map (tv E)).reverse ++ st.map (tv E) := by
    rw [List.map_append, List.map_reverse]
  rw [e1]
  exact mb_callend C R hsh k (va_runSN (As := as.map (tv E)) (host := "MinuteBook") ⟨C.1, C.2.1, C.2.2.1, C.own, C.tb⟩ (hM l E) ⟨va_cnB n C.tb (mb_good hm) rfl rfl rfl (C.si.2.1 _ hl) (C.tb _ hm.2.1) hm.2.2.1 hRR, C.tb _ hi, trivial⟩ ⟨mb_blind, mb_pre R C.si _⟩ rfl (by rw [List.length_map]; exact hn) R.2.2.2.1.1 rfl (lv_room (by rw [mb_cats]; exact hst)) hd ⟨hc, hsl⟩)
/-- a constructor -/
theorem g_callI {a : Int} {kd na : Nat} (hr : Y.2.2.2 = none) (hy : Y.1.name = "<init>") (hl : Cond.methodLink K.1.1.cls idx Y.1 ∈ mbTB) (hm : mtOk Y n) (hi : Cond.instanceMethod Y.1 ∈ mbTB) (hn : as.length = n) (hM : Mt Y d (.inr (.inr a) :: as) sh sh1 ct Po) (hs : shA sh a = some (kd, na)) (hsh : shLe sh sh1) (hR : rmOk K d sh1) (hst : (st.map gcat).sum ≤ 8) (hd : decode K.1.2.1 pc = .ok (.invokespecial idx, 3)) (hstk : stk = as.reverse ++ .inr (.inr a) :: st) (hq : pc + 3 = q) (k : ∀ r ct1, Po r ct1 → G K q ls (r.toList ++ st) sh1 ct1) : G K pc ls stk sh ct := by
  subst hq; subst hstk
  intro p l e s m args below meth c E C H locs lsv R
  obtain ⟨j, rfl, hj⟩ := shA_some hs
  obtain ⟨hRR, hc, hsl⟩ := mb_room R hm hsh hR
  have e1 : (as.reverse ++ .inr (.inr (j : Int)) :: st).map (tv E) = (as.map (tv E)).reverse ++ .ref (E.2.2.1 + j) :: st.map (tv E) := by
    rw [List.map_append, List.map_cons, List.map_reverse]
    show _ ++ rvE E j :: _ = _
    rw [rv_nat]
  rw [e1]
  have hMt := hM l E
  have e2 : ((.inr (.inr (j : Int)) :: as).map (tv E)) = .ref (E.2.2.1 + j) :: as.map (tv E) := by
    rw [List.map_cons]
    show rvE E j :: _ = _
    rw [rv_nat]
  rw [e2] at hMt
  exact mb_callend C R hsh k (va_runI (As := as.map (tv E)) ⟨C.1, C.2.1, C.2.2.1, C.own, C.tb⟩ hMt ⟨callB_of n C.tb (mb_good hm) (by rw [← hr]; rfl) rfl rfl (C.tb _ hm.2.1) (C.tb _ hl) hm.2.2.1 hRR, hy, C.tb _ hi⟩ ⟨mb_blind, mb_pre R C.si _⟩ rfl (by rw [List.length_map]; exact hn) R.2.2.2.1.1 rfl (lv_room (by rw [mb_cats]; exact hst)) hd ⟨hc, hsl⟩)
theorem g_callIN {a : Int} {kd na : Nat} (hr : Y.2.2.2 = none) (hy : Y.1.name = "<init>") (hl : Cond.methodLinkNest K.1.1.cls idx Y.1 "MinuteBook" ∈ mbNs) (hm : mtOk Y n) (hi : Cond.instanceMethod Y.1 ∈ mbTB) (hn : as.length = n) (hM : Mt Y d (.inr (.inr a) :: as) sh sh1 ct Po) (hs : shA sh a = some (kd, na)) (hsh : shLe sh sh1) (hR : rmOk K d sh1) (hst : (st.map gcat).sum ≤ 8) (hd : decode K.1.2.1 pc = .ok (.invokespecial idx, 3)) (hstk : stk = as.reverse ++ .inr (.inr a) :: st) (hq : pc + 3 = q) (k : ∀ r ct1, Po r ct1 → G K q ls (r.toList ++ st) sh1 ct1) : G K pc ls stk sh ct := by
  subst hq; subst hstk
  intro p l e s m args below meth c E C H locs lsv R
  obtain ⟨j, rfl, hj⟩ := shA_some hs
  obtain ⟨hRR, hc, hsl⟩ := mb_room R hm hsh hR
  have e1 : (as.reverse ++ .inr (.inr (j : Int)) :: st).map (tv E) = (as.map (tv E)).reverse ++ .ref (E.2.2.1 + j) :: st.map (tv E) := by
    rw [List.map_append, List.map_cons, List.map_reverse]
    show _ ++ rvE E j :: _ = _
    rw [rv_nat]
  rw [e1]
  have hMt := hM l E
  have e2 : ((.inr (.inr (j : Int)) :: as).map (tv E)) = .ref (E.2.2.1 + j) :: as.map (tv E) := by
    rw [List.map_cons]
    show rvE E j :: _ = _
    rw [rv_nat]
  rw [e2] at hMt
  exact mb_callend C R hsh k (va_runIN (As := as.map (tv E)) (host := "MinuteBook") ⟨C.1, C.2.1, C.2.2.1, C.own, C.tb⟩ hMt ⟨va_cnB n C.tb (mb_good hm) (by rw [← hr]; rfl) rfl rfl (C.si.2.1 _ hl) (C.tb _ hm.2.1) hm.2.2.1 hRR, hy, C.tb _ hi⟩ ⟨mb_blind, mb_pre R C.si _⟩ rfl (by rw [List.length_map]; exact hn) R.2.2.2.1.1 rfl (lv_room (by rw [mb_cats]; exact hst)) hd ⟨hc, hsl⟩)
theorem kI {P : Int → mbCt → Prop} (k : ∀ x c, P x c → G K q ls (.inl x :: st) sh1 c) : ∀ r c, pI P r c → G K q ls (r.toList ++ st) sh1 c := by
  rintro r c ⟨x, rfl, h⟩
  exact k x c h
theorem kL {P : Int → mbCt → Prop} (k : ∀ x c, P x c → G K q ls (.inr (.inl x) :: st) sh1 c) : ∀ r c, pL P r c → G K q ls (r.toList ++ st) sh1 c := by
  rintro r c ⟨x, rfl, h⟩
  exact k x c h
theorem kN {P : mbCt → Prop} (k : ∀ c, P c → G K q ls st sh1 c) : ∀ r c, pN P r c → G K q ls (r.toList ++ st) sh1 c := by
  rintro r c ⟨rfl, h⟩
  exact k c h
theorem g_objInit {a : Int} {kd na : Nat} (hl : Cond.methodLink K.1.1.cls idx Lib.objectInit ∈ mbTB) (hi : Cond.instanceMethod Lib.objectInit ∈ mbTB) (hco : Cond.code Lib.objectInit ⟨#[0xb1]⟩ 1 none ∈ mbTB) (hs : shA sh a = some (kd, na)) (hR : rmOk K 0 sh) (hst : (st.map gcat).sum ≤ 8) (hd : decode K.1.2.1 pc = .ok (.invokespecial idx, 3)) (hq : pc + 3 = q) (k : G K q ls st sh ct) : G K pc ls (.inr (.inr a) :: st) sh ct := by
  subst hq
  intro p l e s m args below meth c E C H locs lsv R
  obtain ⟨j, rfl, hj⟩ := shA_some hs
  show W p l e _ s m args below meth c H locs _ _ _ (F0 m pc lsv (rvE E j :: st.map (tv E)))
  rw [rv_nat]
  have h2 := hR.2.1
  refine W.objInit C.1 C.2.1 C.own (C.tb _ hl) (C.tb _ hi) (C.tb _ hco) rfl (R.2.2.2.1.1.trans C.2.2.1.symm) rfl hd hR.1 ?_ (k p l e s m args below meth c E C H locs lsv R)
  show 2 * 0 + _ + 12 ≤ _
  rw [mb_cats]
  omega
theorem g_mmin {x y : Int} (hl : Cond.methodLink K.1.1.cls idx Lib.Math.min.name ∈ mbTB) (hs : Cond.static Lib.Math.min.name ∈ mbTB) (hi : Cond.initialized "java/lang/Math" ∈ mbTB) (hco : Cond.code Lib.Math.min.name Lib.Math.min.code 2 (some .int) ∈ mbTB) (hR : rmOk K 0 sh) (hst : (st.map gcat).sum ≤ 8) (hd : decode K.1.2.1 pc = .ok (.invokestatic idx, 3)) (hq : pc + 3 = q) (k : G K q ls (.inl (if w32 y < w32 x then y else x) :: st) sh ct) : G K pc ls (.inl y :: .inl x :: st) sh ct := by
  subst hq
  intro p l e s m args below meth c E C H locs lsv R
  have h := k p l e s m args below meth c E C H locs lsv R
  have h2 := hR.2.1
  refine va_mmin C.1 C.2.1 (C.2.2.1.trans R.2.2.2.1.1.symm) C.own (C.tb _ hl) (C.tb _ hs) (C.tb _ hi) (C.tb _ hco) hR.1 (by rw [mb_cats]; omega) hR.2.2.1 hR.2.2.2 hd ?_
  by_cases hxy : w32 y < w32 x
  · rw [if_pos ((mb_ilt y x).mpr hxy)]
    rw [if_pos hxy] at h
    exact h
  · rw [if_neg (fun z => hxy ((mb_ilt y x).mp z))]
    rw [if_neg hxy] at h
    exact h
theorem g_mmax {x y : Int} (hl : Cond.methodLink K.1.1.cls idx Lib.Math.max.name ∈ mbTB) (hs : Cond.static Lib.Math.max.name ∈ mbTB) (hi : Cond.initialized "java/lang/Math" ∈ mbTB) (hco : Cond.code Lib.Math.max.name Lib.Math.max.code 2 (some .int) ∈ mbTB) (hR : rmOk K 0 sh) (hst : (st.map gcat).sum ≤ 8) (hd : decode K.1.2.1 pc = .ok (.invokestatic idx, 3)) (hq : pc + 3 = q) (k : G K q ls (.inl (if w32 x < w32 y then y else x) :: st) sh ct) : G K pc ls (.inl y :: .inl x :: st) sh ct := by
  subst hq
  intro p l e s m args below meth c E C H locs lsv R
  have h := k p l e s m args below meth c E C H locs lsv R
  have h2 := hR.2.1
  refine va_mmax C.1 C.2.1 (C.2.2.1.trans R.2.2.2.1.1.symm) C.own (C.tb _ hl) (C.tb _ hs) (C.tb _ hi) (C.tb _ hco) hR.1 (by rw [mb_cats]; omega) hR.2.2.1 hR.2.2.2 hd ?_
  by_cases hxy : w32 x < w32 y
  · rw [if_pos ((mb_ilt x y).mpr hxy)]
    rw [if_pos hxy] at h
    exact h
  · rw [if_neg (fun z => hxy ((mb_ilt x y).mp z))]
    rw [if_neg hxy] at h
    exact h
end MBcalls
