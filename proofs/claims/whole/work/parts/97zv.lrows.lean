/-! THE CLAIM OUT OF ONE WALK OF THE LAW'S BODY. Your part is whole_start (and what it stands on); all else here is the same for every law, but numbers. -/
def R_law : String := "MinuteBookLaw"
def lw_P (b : Addr) (xs : List Int32) (args : Array Value) (s : State) : Prop := args = #[.ref b] ∧ s.IntsAt b xs ∧ xs.length ≤ 3072 ∧ (Jvm.Cond.and given_1 narrow_1).before args s = true
def lw_Q (_ : Array Value) (s : State) (o : Outcome) (t : State) : Prop := o = .returned (some (.int 1)) ∧ Framed s o t [] 600000 7302249
def lw_Z (below : List Frame) (a : Array Value) (s : State) : State → Prop := fun t => ∃ o, t.status = .running ∧ Ended t below o ∧ lw_Q a s o t
/-- the law's own end, with 1 on the stack, nothing written that was there before, its room as the claim has it -/
theorem lw_ret {p : Program} {l : Launch} {e : Env} {s : State} {m : MethodId} {below : List Frame} {meth : Method} {c : Code} {b : Nat} (hx : p.tables.exec = Jvm.exec) (hb : c.code = code) (hr : meth.sig.returnType = ret) (hlocks : meth.locks = false) {pc : Nat} {H : Heap} {ls : Array Slot} (hdg : decode code pc = .ok (.ireturn, 1)) : W p l e room_1 s m #[Value.ref b] below meth c H [] 600000 7302249 (lw_Z below #[Value.ref b] s) (F0 m pc ls [.int 1]) := by
  intro T hT X
  obtain ⟨fs, hret, hrun, hended, hW, hframe⟩ := X.leave (v := some (.int 1)) (hlocks := hlocks) (fun h => by rw [hr] at h; cases h)
  have hmeth' : T.vm.method? m = some meth := X.method'
  refine ⟨T.setFrames fs, ?_, .returned (some (.int 1)), hrun, hended, rfl, ⟨_, rfl⟩, hW, hframe⟩
  jvm_step X.here [X.here.top, hx, hb, hdg, hmeth', hr, ret, narrow_b1]
  (try refine ⟨rfl, ?_⟩); (try refine ⟨rfl, ?_⟩)
  first | (intro acts; rw [hret _ acts rfl rfl rfl]) | rw [hret _ _ rfl rfl rfl]
  exact Steps.refl _
/-- what holds at the law's entry: the machine, the code, the tables' words (any of lw_tbl by 'hts w (by decide +kernel)'), the script of L ints xs at the cell b, what the Statement gives of the start (any of its parts by flat_of_before) -/
def lw_At (p : Program) (s : State) (m : MethodId) (meth : Method) (c : Code) (b L : Nat) (xs : Nat → Int32) : Prop :=
  p.tables.exec = Jvm.exec ∧ c.code = code ∧ meth.sig.returnType = ret ∧ c.maxLocals = 4 ∧ s.vm.findClass R_law = some m.cls ∧ (∀ w ∈ lw_tbl, w.before #[Value.ref b] s = true) ∧ va_X b L xs s s.heap ∧ b < s.heap.size ∧ meth.locks = false ∧ (Jvm.Cond.and given_1 narrow_1).before #[Value.ref b] s = true
/-! the law's own rows -/
def KL (nm : String) (b0 L : Nat) (xs : Nat → Int32) : mbK := (((⟨RL, nm, "([I)Z"⟩ : MethodName), cL_law, 4, ret), room_1, [], (fun _ below args s => lw_Z below args s), fun E args s => args = #[Value.ref b0] ∧ va_X b0 L xs s s.heap ∧ b0 < E.2.2.1 ∧ E.2.2.2 9 = b0 ∧ s.heap.size = E.2.2.1)
def sv (xs : Nat → Int32) (j : Int) : Int := (xs j.toNat).toInt
theorem sv_i (xs : Nat → Int32) (j : Int) : i32 (sv xs j) := by
  have h1 := Int32.le_toInt (xs j.toNat)
  have h2 := Int32.toInt_lt (xs j.toNat)
  unfold i32 sv
  omega
section
variable {nm : String} {b0 L : Nat} {xs : Nat → Int32} {pc q : Nat} {ls : List (Option gV)} {st : List gV} {sh : mbSh} {ct : mbCt} {i : Int}
theorem g_slen (hL : L ≤ 3072) (hd : decode cL_law pc = .ok (.arraylength, 1)) (hq : pc + 1 = q) (k : G (KL nm b0 L xs) q ls (.inl (L : Int) :: st) sh ct) : G (KL nm b0 L xs) pc ls (.inr (.inr (-11)) :: st) sh ct := by
  subst hq
  intro p l e s m args below meth c E C0 H locs lsv R
  have h := k p l e s m args below meth c E C0 H locs lsv R
  obtain ⟨hargs, ⟨scr, g1, g2, g3, g4, g5⟩, hb, h9, -⟩ := C0.2.2.2.2.2.2.2.2.2
  show W p l e _ s m args below meth c H locs _ _ _ (F0 m pc lsv (rvE E (-11) :: st.map (tv E)))
  have e11 : rvE E (-11) = .ref b0 := by rw [← h9]; rfl
  rw [e11]
  exact W.alen (n := Int32.ofInt L) C0.1 C0.2.1 (by rw [R.2.1 b0 hb]; exact g1) g2 (by rw [g4, Int32.ofInt_eq_ofNat] <;> rfl) rfl rfl hd h
theorem g_sld {j : Int} (hi0 : 0 ≤ i) (hiL : i + 6 ≤ (L : Int)) (h0 : 0 ≤ j) (h1 : j < (L : Int) ∧ (L : Int) < 100000) (hd : decode cL_law pc = .ok (.iaload, 1)) (hq : pc + 1 = q) (k : G (KL nm b0 L xs) q ls (.inl (sv xs j) :: st) sh ct) : G (KL nm b0 L xs) pc ls (.inl j :: .inr (.inr (-11)) :: st) sh ct := by
  subst hq
  intro p l e s m args below meth c E C0 H locs lsv R
  have h := k p l e s m args below meth c E C0 H locs lsv R
  obtain ⟨hargs, ⟨scr, g1, g2, g3, g4, g5⟩, hb, h9, -⟩ := C0.2.2.2.2.2.2.2.2.2
  have hw : w32 j = j := w32_id (by omega) (by omega)
  obtain ⟨hin, hcl⟩ := mb_in (i := j) (n := L) (by rw [hw]; exact h0) (by rw [hw]; exact h1.1)
  rw [hw] at hcl
  show W p l e _ s m args below meth c H locs _ _ _ (F0 m pc lsv (.int (Int32.ofInt j) :: rvE E (-11) :: st.map (tv E)))
  have e11 : rvE E (-11) = .ref b0 := by rw [← h9]; rfl
  rw [e11]
  have hin' : ¬ (Int32.ofInt j < 0 ∨ scr.slots.size ≤ (Int32.ofInt j).toNatClampNeg) := by
    rintro (q | q)
    · exact hin (Or.inl q)
    · exact hin (Or.inr (by omega))
  refine W.iald (v := .int (Int32.ofInt (sv xs j))) C0.1 C0.2.1 (by rw [R.2.1 b0 hb]; exact g1) g2 g3 hin' ?_ rfl rfl hd h
  rw [hcl, g5 _ (by omega)]
  unfold sv
  rw [Int32.ofInt_toInt]
theorem rmL {N d : Nat} (R : RMs sh N) (hd : d < 1200) : rmOk (KL nm b0 L xs) d sh := by
  obtain ⟨-, -, h2, h3, j, hj⟩ := R
  have := (ndM_b j j).1
  refine ⟨?_, ?_, ?_, ?_⟩
  · show d + 1 ≤ 2048
    omega
  · show 64 * (d + 1) ≤ 84000
    omega
  · show sh.length - 0 ≤ 600000
    omega
  · show ssz sh - 0 ≤ 7302249
    omega
theorem and63 (x : Int) : 0 ≤ andI x 63 ∧ andI x 63 < 64 := by
  unfold andI
  have h : ((x % 4294967296).toNat &&& ((63 : Int) % 4294967296).toNat) = (x % 4294967296).toNat % 64 := Nat.and_two_pow_sub_one_eq_mod _ 6
  rw [h]
  omega
theorem INC.up {b o : Int} {β : Bk} {s : Sit} {n : Int} {pl : Int → Sit} {q : Int} {N : Nat} {V W : Int} {hi : Int → Int} {bi : Int → Bk} {si : Int → Sit} {sz bt : Int → Int} {vl : Int → Int → Int} {tn : Int} (h : INC sh ct b o β s n pl q N V hi bi si sz bt vl tn) (hv : V ≤ W) (hw : W < 900000) : INC sh ct b o β s n pl q N W hi bi si sz bt vl tn := ⟨⟨h.1.1.up hv hw, h.1.2⟩, h.2⟩
theorem orE {P : Prop} {Q : Int → Prop} {k r r2 : Int} (hQ : ∀ x y, Q x → Q y → x = y) (h : (P ∧ Q r) ∨ (¬ P ∧ r = k)) (h2 : (P ∧ Q r2) ∨ (¬ P ∧ r2 = k)) : r = r2 := by
  rcases h with ⟨a, b⟩ | ⟨a, b⟩
  · rcases h2 with ⟨c, d⟩ | ⟨c, d⟩
    · exact hQ _ _ b d
    · exact absurd a c
  · rcases h2 with ⟨c, d⟩ | ⟨c, d⟩
    · exact absurd c a
    · rw [b, d]
end
