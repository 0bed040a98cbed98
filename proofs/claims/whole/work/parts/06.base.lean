/-! The machine seen from above: whole numbers in a store of cells that are numbered as they were made (the k-th one lies at the address B + k); what a method does is told of that store. -/
abbrev gV : Type := Int ⊕ (Int ⊕ Int)
abbrev mbCt : Type := Int → Int → Int
abbrev mbSh : Type := List (Nat × Nat)
/-- the tables' numbers; the array classes by kind; the first cell's address; the addresses of cells that were there before -/
abbrev mbE : Type := va_G × (Nat → ClassId) × Nat × (Nat → Nat)
def rvE (E : mbE) (x : Int) : Value := if x = -1 then .null else if 0 ≤ x then .ref (E.2.2.1 + x.toNat) else .ref (E.2.2.2 (-x - 2).toNat)
def tv (E : mbE) : gV → Value
  | .inl x => .int (Int32.ofInt x)
  | .inr (.inl x) => .long (Int64.ofInt x)
  | .inr (.inr x) => rvE E x
def fv (E : mbE) (ty : FieldType) (x : Int) : Value := match ty with
  | .long => .long (Int64.ofInt x)
  | .object _ => rvE E x
  | .array _ => rvE E x
  | _ => .int (Int32.ofInt x)
def fV (ty : FieldType) (x : Int) : gV := match ty with
  | .long => .inr (.inl x)
  | .object _ => .inr (.inr x)
  | .array _ => .inr (.inr x)
  | _ => .inl x
theorem tv_fV (E : mbE) (ty : FieldType) (x : Int) : tv E (fV ty x) = fv E ty x := by cases ty <;> rfl
/-- what a row of a kind holds -/
def aty (kd : Nat) : FieldType := match kd with
  | 20 => .int
  | 21 => .long
  | 22 => .byte
  | 23 => .short
  | 24 => .boolean
  | 25 => .object RX8
  | 26 => .object RX9
  | _ => .object RX2
def mbTys (cA : Nat → ClassId) : List (ClassId × FieldType) := [(cA 20, .int), (cA 21, .long), (cA 22, .byte), (cA 23, .short), (cA 24, .boolean), (cA 25, .object RX8), (cA 26, .object RX9), (cA 27, .object RX2)]
def cellOk (E : mbE) (kd n : Nat) (c : Int → Int) (a : Nat) (H : Heap) : Prop :=
  (kd < 20 ∧ (∃ r : vw_C, mbCl[kd]? = some r ∧ r.2.2 = n) ∧ t_OB a (E.1.1 kd) n (E.1.2 kd) H (fun j => fv E (tyOf kd j) (c j))) ∨
  (20 ≤ kd ∧ kd < 28 ∧ H[a]? = some (arrV (E.2.1 kd) n (fun j => fv E (aty kd) (c j))))
def HR (E : mbE) (sh : mbSh) (ct : mbCt) (H : Heap) : Prop := H.size = E.2.2.1 + sh.length ∧ ∀ k kd n : Nat, sh[k]? = some (kd, n) → cellOk E kd n (ct k) (E.2.2.1 + k) H
def shA (sh : mbSh) (x : Int) : Option (Nat × Nat) := if 0 ≤ x then sh[x.toNat]? else none
def ssz (sh : mbSh) : Nat := (sh.map fun q => q.2).sum
def mbLen : List Nat := [93, 92, 12]
def mbByt : List (List Int32) := [[32, 98, 111, 111, 107, 32, 116, 111, 110, 101, 32, 104, 101, 97, 116, 32, 109, 101, 109, 98, 101, 114, 32, 109, 97, 114, 107, 32, 115, 97, 121, 105, 110, 103, 32, 117, 112, 32, 100, 111, 119, 110, 32, 119, 97, 114, 109, 32, 99, 111, 111, 108, 32, 119, 111, 117, 108, 100, 32, 99, 108, 111, 115, 101, 115, 32, 115, 116, 114, 111, 107, 101, 32, 108, 97, 115, 116, 32, 119, 104, 111, 32, 97, 110, 100, 32, 111, 114, 32, 110, 111, 116, 32], [98, 111, 111, 107, 32, 116, 111, 110, 101, 32, 104, 101, 97, 116, 32, 109, 101, 109, 98, 101, 114, 32, 109, 97, 114, 107, 32, 115, 97, 121, 105, 110, 103, 32, 117, 112, 32, 100, 111, 119, 110, 32, 119, 97, 114, 109, 32, 99, 111, 111, 108, 32, 119, 111, 117, 108, 100, 32, 99, 108, 111, 115, 101, 115, 32, 115, 116, 114, 111, 107, 101, 32, 111, 114, 32, 97, 110, 100, 32, 110, 111, 116, 32, 108, 97, 115, 116, 32, 119, 104, 111, 32], [59, 58, 43, 45, 42, 40, 41, 91, 93, 61, 60, 62]]
def mbAb : List Int := [1, 9, 4, 7, 3, 1, 2, 3, 1, 1, 0]
def mbBe : List Int := [1, 10, 5, 10, 5, 2, 5, 10, 5, 10, 1]
/-- what lies below the first cell: three texts (the words of the reference, of the class, the signs), two static rows, the switch of Strings -/
def mbX (E : mbE) (U : State) (H : Heap) : Prop :=
  vk_S 3 mbLen mbByt E.2.2.2 (fun i => E.2.2.2 (10 + i)) (fun q => E.2.2.1 ≤ q) U H ∧
  (vk_R RX12 94 " book tone heat member mark saying up down warm cool would closes stroke last who and or not " (E.2.2.2 0) U ∧ vk_R RX6 90 "book tone heat member mark saying up down warm cool would closes stroke or and not last who " (E.2.2.2 1) U ∧ vk_R RX12 132 ";:+-*()[]=<>" (E.2.2.2 2) U ∧ vk_R RX6 82 ";:+-*()[]=<>" (E.2.2.2 2) U) ∧
  (va_AO RX8 U ∧ va_AO RX9 U ∧ va_AO RX2 U) ∧
  (va_Z RX11 "PASSES_ABOVE" "[I" (.ref (E.2.2.2 3)) (fun q => E.2.2.1 ≤ q) U H ∧ va_Z RX11 "PASSES_BELOW" "[I" (.ref (E.2.2.2 4)) (fun q => E.2.2.1 ≤ q) U H ∧ va_Z "java/lang/String" "COMPACT_STRINGS" "Z" (.int 1) (fun q => E.2.2.1 ≤ q) U H ∧ (va_Z "jdk/internal/util/Preconditions" "SIOOBE_FORMATTER" "Ljava/util/function/BiFunction;" .null (fun q => E.2.2.1 ≤ q) U H ∨ va_Z "jdk/internal/util/Preconditions" "SIOOBE_FORMATTER" "Ljava/util/function/BiFunction;" (.ref (E.2.2.2 6)) (fun q => E.2.2.1 ≤ q) U H)) ∧
  va_T .int (E.2.2.2 3) 11 (fun j => .int (Int32.ofInt (mbAb.getD j 0))) (fun q => E.2.2.1 ≤ q) U H ∧ va_T .int (E.2.2.2 4) 11 (fun j => .int (Int32.ofInt (mbBe.getD j 0))) (fun q => E.2.2.1 ≤ q) U H ∧ E.2.2.1 ≤ H.size
def mbSI (E : mbE) (U : State) (H : Heap) : Prop := va_K E.1 mbCl (mbTys E.2.1) U ∧ (∀ w ∈ mbNs, va_Nw w U) ∧ mbX E U H
theorem mbX.kept {E : mbE} {U : State} {H H1 : Heap} (h : mbX E U H) (hz : E.2.2.1 ≤ H1.size) (hq : ∀ q : Nat, q < E.2.2.1 → H1[q]? = H[q]?) : mbX E U H1 := by
  have hk : ∀ a : Nat, a < H.size → ¬ (fun q => E.2.2.1 ≤ q) a → H1[a]? = H[a]? := fun a _ h2 => hq a (Nat.lt_of_not_le h2)
  obtain ⟨h1, h2, ho, ⟨h3, h4, h5, h5b⟩, h6, h7, -⟩ := h
  exact ⟨h1.kept hk, h2, ho, ⟨h3.kept hk, h4.kept hk, h5.kept hk, h5b.imp (fun z => z.kept hk) (fun z => z.kept hk)⟩, h6.kept hk, h7.kept hk, hz⟩
theorem mbX.warm {E : mbE} {s U : State} {H : Heap} (hW : s.WarmedH U.vm) (h : mbX E s H) : mbX E U H := by
  obtain ⟨h1, ⟨a1, a2, a3, a4⟩, ⟨o1, o2, o3⟩, ⟨h3, h4, h5, h5b⟩, h6, h7, h8⟩ := h
  exact ⟨h1.moved hW.alike, ⟨a1.warm hW, a2.warm hW, a3.warm hW, a4.warm hW⟩, ⟨o1.moved hW.alike, o2.moved hW.alike, o3.moved hW.alike⟩, ⟨h3.moved hW.alike, h4.moved hW.alike, h5.moved hW.alike, h5b.imp (fun z => z.moved hW.alike) (fun z => z.moved hW.alike)⟩, h6.moved hW.alike, h7.moved hW.alike, h8⟩
theorem mb_nest {w : Cond} (h : w ∈ mbNs) : ∃ a i x b, w = .methodLinkNest a i x b := by
  have h2 := (List.mem_filter.mp h).2
  cases w <;> first | exact ⟨_, _, _, _, rfl⟩ | (exact absurd h2 (by simp))
theorem mbSI.kept {E : mbE} {U : State} {H H1 : Heap} (h : mbSI E U H) (hz : E.2.2.1 ≤ H1.size) (hq : ∀ q : Nat, q < E.2.2.1 → H1[q]? = H[q]?) : mbSI E U H1 := ⟨h.1, h.2.1, h.2.2.kept hz hq⟩
theorem mbSI.warm {E : mbE} {s U : State} {H : Heap} (hW : s.WarmedH U.vm) (h : mbSI E s H) : mbSI E U H := by
  refine ⟨h.1.moved hW.alike, fun w hw => ?_, h.2.2.warm hW⟩
  have h2 := h.2.1 w hw
  obtain ⟨a, i, x, b, rfl⟩ := mb_nest hw
  exact h2.warmM hW
theorem mbSI.same {E : mbE} {s U : State} {H : Heap} (hv : U.vm = s.vm) (h : mbSI E s H) : mbSI E U H := by
  have ha : s.vm.Alike U.vm := by rw [hv]; exact Vm.Alike.refl _
  obtain ⟨h0, h9, h1, ⟨a1, a2, a3, a4⟩, ⟨o1, o2, o3⟩, ⟨h3, h4, h5, h5b⟩, h6, h7, h8⟩ := h
  refine ⟨h0.moved ha, fun w hw => ?_, h1.moved ha, ⟨a1.same hv, a2.same hv, a3.same hv, a4.same hv⟩, ⟨o1.moved ha, o2.moved ha, o3.moved ha⟩, ⟨h3.moved ha, h4.moved ha, h5.moved ha, h5b.imp (fun z => z.moved ha) (fun z => z.moved ha)⟩, h6.moved ha, h7.moved ha, h8⟩
  have h2 := h9 w hw
  obtain ⟨a, i, x, b, rfl⟩ := mb_nest hw
  exact h2.same rfl hv.symm
/-- a walk: the method; its room; the shapes at its entry; its end; what else is known at its entry -/
abbrev mbK : Type := mbY × Room × mbSh × (mbE → List Frame → Array Value → State → State → Prop) × (mbE → Array Value → State → Prop)
def mbCx (K : mbK) (p : Program) (s : State) (m : MethodId) (args : Array Value) (meth : Method) (c : Code) (E : mbE) : Prop :=
  p.tables.exec = Jvm.exec ∧ c.code = K.1.2.1 ∧ c.maxLocals = K.1.2.2.1 ∧ meth.sig.returnType = K.1.2.2.2 ∧ meth.locks = false ∧ meth.name = K.1.1.name ∧ s.vm.findClass K.1.1.cls = some m.cls ∧ (∀ w ∈ mbTB, w.before args s = true) ∧ mbSI E s s.heap ∧ K.2.2.2.2 E args s
/-- the locals, place by place -/
def lsR (E : mbE) (nL : Nat) (ls : List (Option gV)) (lsv : Array Slot) : Prop := lsv.size = nL ∧ lv_wf lsv ∧ ∀ (i : Nat) (v : gV), ls[i]? = some (some v) → lsv[i]? = some (.val (tv E v))
/-- what holds while a method is walked -/
def mbR (K : mbK) (s : State) (E : mbE) (H : Heap) (locs : List Loc) (lsv : Array Slot) (ls : List (Option gV)) (sh : mbSh) (ct : mbCt) : Prop :=
  HR E sh ct H ∧ (∀ q : Nat, q < E.2.2.1 → H[q]? = s.heap[q]?) ∧ (∀ q ∈ locs, E.2.2.1 ≤ q.base) ∧ lsR E K.1.2.2.1 ls lsv ∧ K.2.2.1.length ≤ sh.length ∧ ssz K.2.2.1 ≤ ssz sh
/-- THE WALK: from here the method comes to its end -/
def G (K : mbK) (pc : Nat) (ls : List (Option gV)) (st : List gV) (sh : mbSh) (ct : mbCt) : Prop :=
  ∀ (p : Program) (l : Launch) (e : Env) (s : State) (m : MethodId) (args : Array Value) (below : List Frame) (meth : Method) (c : Code) (E : mbE), mbCx K p s m args meth c E →
    ∀ (H : Heap) (locs : List Loc) (lsv : Array Slot), mbR K s E H locs lsv ls sh ct →
      W p l e K.2.1 s m args below meth c H locs (sh.length - K.2.2.1.length) (ssz sh - ssz K.2.2.1) (K.2.2.2.1 E below args s) (F0 m pc lsv (st.map (tv E)))
def mbRm (d : Nat) (sh shE : mbSh) : Room := { frames := d, cells := shE.length - sh.length, slots := ssz shE - ssz sh, locals := 64 * d }
def mbQ (E : mbE) (shE : mbSh) (Po : Option gV → mbCt → Prop) : Array Value → State → Outcome → State → Prop := fun _ st o t => (∃ (r : Option gV) (ct : mbCt), o = .returned (r.map (tv E)) ∧ HR E shE ct t.heap ∧ Po r ct) ∧ ∀ q : Nat, q < E.2.2.1 → t.heap[q]? = st.heap[q]?
def mbF (E : mbE) : Addr → Prop := fun q => E.2.2.1 ≤ q
/-- a method's walk to its end: shapes shE, the answer and the store by Po -/
def mkK (Y : mbY) (d : Nat) (sh shE : mbSh) (Po : Option gV → mbCt → Prop) : mbK :=
  (Y, mbRm d sh shE, sh, (fun E below args s => MQ below (mbQ E shE Po) args s (shE.length - sh.length) (ssz shE - ssz sh) (mbF E)), fun _ _ _ => True)
def mbWs (Y : mbY) : List Cond := .code Y.1 Y.2.1 Y.2.2.1 Y.2.2.2 :: mbTB
def mbPre (E : mbE) (sh : mbSh) (ct : mbCt) (U : State) : Prop := HR E sh ct U.heap ∧ mbSI E U U.heap
/-- A METHOD'S CONTRACT: called with args, the store as it is, in the depth d: it returns, its answer and the store by Po -/
def Mt (Y : mbY) (d : Nat) (as : List gV) (sh shE : mbSh) (ct : mbCt) (Po : Option gV → mbCt → Prop) : Prop :=
  ∀ (l : Launch) (E : mbE), Met l Y.1 (mbWs Y) (mbRm d sh shE) (va_Pc (as.map (tv E)) (mbPre E sh ct)) (mbQ E shE Po) (shE.length - sh.length) (ssz shE - ssz sh) (mbF E)
def gcat : gV → Nat
  | .inr (.inl _) => 2
  | _ => 1
theorem tv_cat (E : mbE) (v : gV) : (tv E v).category = gcat v := by
  rcases v with x | x | x
  · rfl
  · rfl
  · show (rvE E x).category = 1
    unfold rvE
    split
    · rfl
    · split <;> rfl
/-- the locals at a method's entry -/
def eL : List gV → List (Option gV)
  | [] => []
  | v :: r => if gcat v = 2 then some v :: none :: eL r else some v :: eL r
def eLn (as : List gV) (n : Nat) : List (Option gV) := eL as ++ List.replicate (n - (eL as).length) none
theorem eL_len (E : mbE) : ∀ as : List gV, (eL as).length = (lg_sl (as.map (tv E))).length
  | [] => rfl
  | v :: r => by
    have ih := eL_len E r
    unfold lg_sl at ih ⊢
    by_cases h : gcat v = 2
    · have h2 : (tv E v).category = 2 := by rw [tv_cat]; exact h
      simp [eL, h, h2, ih]
    · have h2 : ¬ (tv E v).category = 2 := by rw [tv_cat]; exact h
      simp [eL, h, h2, ih]
theorem eL_at (E : mbE) : ∀ (as : List gV) (i : Nat) (v : gV), (eL as)[i]? = some (some v) → (lg_sl (as.map (tv E)))[i]? = some (.val (tv E v))
  | [], i, v, h => by simp [eL] at h
  | a :: r, i, v, h => by
    have ih := eL_at E r
    unfold lg_sl at ih ⊢
    by_cases h1 : gcat a = 2
    · have h2 : (tv E a).category = 2 := by rw [tv_cat]; exact h1
      simp only [eL, h1, if_true] at h
      simp only [List.map_cons, List.flatMap_cons, h2, if_true]
      match i, h with
      | 0, h => simp at h; simp [h]
      | 1, h => simp at h
      | i + 2, h => simp at h; simpa using ih i v h
    · have h2 : ¬ (tv E a).category = 2 := by rw [tv_cat]; exact h1
      simp only [eL, h1, if_false] at h
      simp only [List.map_cons, List.flatMap_cons, h2, if_false]
      match i, h with
      | 0, h => simp at h; simp [h]
      | i + 1, h => simp at h; simpa using ih i v h
theorem Mt.of {Y : mbY} {d : Nat} {as : List gV} {sh shE : mbSh} {ct : mbCt} {Po : Option gV → mbCt → Prop} (hp : plainName Y.1.cls = true) (hl : (eL as).length ≤ Y.2.2.1) (k : G (mkK Y d sh shE Po) 0 (eLn as Y.2.2.1) [] sh ct) : Mt Y d as sh shE ct Po := by
  intro l E
  refine Met.ofW (cc := Y.2.1) (maxL := Y.2.2.1) (ret := Y.2.2.2) hp rfl ?_
  intro p e s m args below meth c s₁ B hml hv
  obtain ⟨rfl, hH, hI⟩ := hv
  have hts := atoms_spec (ws := mbWs Y) B.pre
  have hn := name_of_methodNamed B.named B.method
  rw [lg_entry_eq]
  have he := lv_entry (as.map (tv E)) (n := Y.2.2.1) (by rw [← eL_len E as]; exact hl)
  have hh := k p l e s m _ below meth c E ⟨B.exec, B.bytes, hml, B.returns, B.notSynchronized, hn.1, findClass_of_methodNamed B.named, fun w hw => hts w (List.mem_cons_of_mem _ hw), hI, trivial⟩ s.heap [] _ ⟨hH, fun _ _ => rfl, fun _ h => (by cases h), ⟨he.1, he.2.1, ?_⟩, Nat.le_refl _, Nat.le_refl _⟩
  · have e1 : (mkK Y d sh shE Po).2.2.1 = sh := rfl
    rw [e1, Nat.sub_self, Nat.sub_self] at hh
    exact hh
  · intro i v hi
    unfold eLn at hi
    by_cases hlt : i < (eL as).length
    · rw [List.getElem?_append_left hlt] at hi
      have := eL_at E as i v hi
      rw [List.getElem?_toArray, List.getElem?_append_left (by rw [← eL_len E as]; exact hlt)]
      exact this
    · rw [List.getElem?_append_right (by omega)] at hi
      have := List.mem_of_getElem? hi
      have := (List.mem_replicate.mp this).2
      cases this
