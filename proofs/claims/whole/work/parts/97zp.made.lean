/-! what the constructors make -/
def cellIs (c : Int → Int) : Option (List Int) → Prop
  | none => ∀ j, c j = 0
  | some l => ∀ (k : Nat) (v : Int), l[k]? = some v → c k = v
def blk (c : mbCt) (o : Nat) (t : List (Option (List Int))) : Prop := ∀ (i : Nat) (x : Option (List Int)), t[i]? = some x → cellIs (c ((o + i : Nat) : Int)) x
def lowF (o : Nat) (ct c : mbCt) : Prop := ∀ x : Int, x < (o : Int) → c x = ct x
def IS (ct : mbCt) (o : Nat) (c : mbCt) (t : List (Option (List Int))) : Prop := blk c o t ∧ lowF o ct c
section
variable {ct c c2 : mbCt} {o p i k : Nat} {t tS : List (Option (List Int))} {x : Option (List Int)} {l : List Int} {a kI v : Int} {f : Int → Int}
theorem IS.st (h : cellIs (ct (o : Int)) x) : IS ct o ct [x] := by
  refine ⟨fun i y hy => ?_, fun _ _ => rfl⟩
  cases i with
  | zero =>
    have : x = y := Option.some.inj hy
    subst this
    exact h
  | succ i => cases hy
theorem IS.na (h : IS ct o c t) (hf : cellIs f x) (ha : ((o + t.length : Nat) : Int) = a) : IS ct o (wa c a f) (t ++ [x]) := by
  refine ⟨fun i y hy => ?_, fun z hz => ?_⟩
  · by_cases hi : i < t.length
    · rw [List.getElem?_append_left hi] at hy
      have e : wa c a f ((o + i : Nat) : Int) = c ((o + i : Nat) : Int) := by funext j; exact wa_na (by omega)
      rw [e]
      exact h.1 i y hy
    · rw [List.getElem?_append_right (by omega)] at hy
      have hi2 : i = t.length := by
        apply Classical.byContradiction
        intro z
        rw [List.getElem?_eq_none (by simp; omega)] at hy
        cases hy
      subst hi2
      rw [Nat.sub_self] at hy
      have : x = y := Option.some.inj hy
      subst this
      have e : wa c a f ((o + t.length : Nat) : Int) = f := by funext j; rw [ha]; exact wa_eq
      rw [e]
      exact hf
  · rw [← h.2 z hz]
    funext j
    exact wa_na (by omega)
theorem IS.nr (h : IS ct o c t) (ht : t[i]? = some (some l)) (hk : k < l.length) (ha : ((o + i : Nat) : Int) = a) (hkI : (k : Int) = kI) : IS ct o (wr c a kI v) (t.set i (some (l.set k v))) := by
  have hil : i < t.length := (List.getElem?_eq_some_iff.mp ht).1
  refine ⟨fun i' y hy => ?_, fun z hz => ?_⟩
  · rw [List.getElem?_set] at hy
    by_cases hi : i = i'
    · subst hi
      rw [if_pos rfl, if_pos hil] at hy
      have : some (l.set k v) = y := Option.some.inj hy
      subst this
      intro k' v' hv'
      rw [List.getElem?_set] at hv'
      by_cases hkk : k = k'
      · subst hkk
        rw [if_pos rfl, if_pos hk] at hv'
        have : v = v' := Option.some.inj hv'
        rw [ha, hkI, wr_eq, this]
      · rw [if_neg hkk] at hv'
        rw [ha, wr_nk (by omega), ← ha]
        exact h.1 i _ ht k' v' hv'
    · rw [if_neg hi] at hy
      have e : wr c a kI v ((o + i' : Nat) : Int) = c ((o + i' : Nat) : Int) := by funext j; exact wr_na (by omega)
      rw [e]
      exact h.1 i' y hy
  · rw [← h.2 z hz]
    funext j
    exact wr_na (by omega)
theorem IS.putk {P : mbCt → Prop} (h : IS ct o c t) (ht : t[i]? = some (some l)) (hk : k < l.length) (ha : ((o + i : Nat) : Int) = a) (hkI : (k : Int) = kI) (kk : ∀ c', IS ct o c' (t.set i (some (l.set k v))) → P c') : P (wr c a kI v) := kk _ (h.nr ht hk ha hkI)
theorem IS.z (h : IS ct o c t) (ht : t[i]? = some none) (n : Nat) : IS ct o c (t.set i (some (List.replicate n 0))) := by
  have hil : i < t.length := (List.getElem?_eq_some_iff.mp ht).1
  refine ⟨fun i' y hy => ?_, h.2⟩
  rw [List.getElem?_set] at hy
  by_cases hi : i = i'
  · subst hi
    rw [if_pos rfl, if_pos hil] at hy
    have : some (List.replicate n 0) = y := Option.some.inj hy
    subst this
    intro k' v' hv'
    have h0 : c ((o + i : Nat) : Int) k' = 0 := (show ∀ j, c ((o + i : Nat) : Int) j = 0 from h.1 i _ ht) k'
    rw [h0]
    exact (List.eq_of_mem_replicate (List.mem_of_getElem? hv')).symm
  · rw [if_neg hi] at hy
    exact h.1 i' y hy
theorem IS.sub (h : IS ct o c (t ++ [x])) (hp : o + t.length = p) (hb : blk c2 p tS) (hl : lowF p c c2) : IS ct o c2 (t ++ tS) := by
  subst hp
  refine ⟨fun i y hy => ?_, fun z hz => ?_⟩
  · by_cases hi : i < t.length
    · rw [List.getElem?_append_left hi] at hy
      rw [hl _ (by omega)]
      exact h.1 i y (by rw [List.getElem?_append_left hi]; exact hy)
    · rw [List.getElem?_append_right (by omega)] at hy
      have := hb _ y hy
      rw [show o + t.length + (i - t.length) = o + i by omega] at this
      exact this
  · rw [hl z (by omega)]
    exact h.2 z hz
theorem IS.at (h : IS ct o c t) (i : Nat) (ht : t[i]? = some x) (ha : ((o + i : Nat) : Int) = a) : cellIs (c a) x := by
  rw [← ha]
  exact h.1 i x ht
theorem IS.get (h : IS ct o c t) (i k : Nat) (ht : t[i]? = some (some l)) (hk : l[k]? = some v) (ha : ((o + i : Nat) : Int) = a) (hkI : (k : Int) = kI) : c a kI = v := by
  rw [← ha, ← hkI]
  exact h.1 i _ ht k v hk
end
theorem shT_len {k : Nat} (h : k ≤ 114) : (SHL.take k).length = k := by
  rw [List.length_take]
  exact Nat.min_eq_left h
theorem shT_push {k : Nat} {q : Nat × Nat} (h : SHL[k]? = some q) : SHL.take k ++ [q] = SHL.take (k + 1) := by
  rw [List.take_add_one, h]
  rfl
theorem shT_le {a b : Nat} (h : a ≤ b) : shLe (SHL.take a) (SHL.take b) := by
  rw [show b = a + (b - a) by omega, List.take_add]
  exact shLe.app _ _
theorem shT_at {k : Nat} {x : Int} {q : Nat × Nat} (h0 : 0 ≤ x) (hx : x < (k : Int)) (h : SHL[x.toNat]? = some q) : shA (SHL.take k) x = some q := by
  unfold shA
  rw [if_pos h0, List.getElem?_take, if_pos (by omega)]
  exact h
section
variable {Y : mbY} {d a b k kd n o idx pc q : Nat} {Po : Option gV → mbCt → Prop} {nI idI : Int} {ls : List (Option gV)} {st : List gV} {ct c : mbCt} {t : List (Option (List Int))} {dl : List Int}
theorem nT_arr {at0 : ArrayType} (h : IS ct o c t) (hk : SHL[k]? = some (kd, n)) (hkt : o + t.length = k) (hb : k + 1 ≤ b) (hb2 : b ≤ 114) (h20 : 20 ≤ kd) (h25 : kd < 25) (hty : newarray.typeOf at0 = aty kd) (hw : Cond.arrayClass (aty kd) ∈ mbTB) (hn : nI = n) (hn1 : n ≤ 1000000) (hid : (k : Int) = idI) (hd : decode Y.2.1 pc = .ok (.newarray at0, 2)) (hq : pc + 2 = q) (kk : ∀ c', IS ct o c' (t ++ [none]) → G (mkK Y d (SHL.take a) (SHL.take b) Po) q ls (.inr (.inr idI) :: st) (SHL.take (k + 1)) c') : G (mkK Y d (SHL.take a) (SHL.take b) Po) pc ls (.inl nI :: st) (SHL.take k) c := by
  have hs : shLe (SHL.take k ++ [(kd, n)]) (SHL.take b) := by rw [shT_push hk]; exact shT_le hb
  refine g_newarray (idI := idI) h20 h25 hty hw hn hn1 (nw_c hs) (nw_s hs) (by rw [shT_len (by omega)]; exact hid) hd hq ?_
  rw [shT_push hk]
  exact kk _ (h.na (x := none) (fun _ => rfl) (by rw [hkt]; exact hid))
theorem nT_anew {cn : String} {vs : List Int} (h : IS ct o c t) (hk : SHL[k]? = some (kd, n)) (hkt : o + t.length = k) (hb : k + 1 ≤ b) (hb2 : b ≤ 114) (h25 : 25 ≤ kd) (h28 : kd < 28) (hty : aty kd = .object cn) (hw : Cond.classLink Y.1.cls idx cn ∈ mbTB) (hao : cn = RX8 ∨ cn = RX9 ∨ cn = RX2) (hn : nI = n) (hn1 : n ≤ 1000000) (hid : (k : Int) = idI) (hvs : ∀ v ∈ vs, v = -1) (hd : decode Y.2.1 pc = .ok (.anewarray idx, 3)) (hq : pc + 3 = q) (kk : ∀ c', IS ct o c' (t ++ [some vs]) → G (mkK Y d (SHL.take a) (SHL.take b) Po) q ls (.inr (.inr idI) :: st) (SHL.take (k + 1)) c') : G (mkK Y d (SHL.take a) (SHL.take b) Po) pc ls (.inl nI :: st) (SHL.take k) c := by
  have hs : shLe (SHL.take k ++ [(kd, n)]) (SHL.take b) := by rw [shT_push hk]; exact shT_le hb
  refine g_anewarray (idI := idI) h25 h28 hty hw hao hn hn1 (nw_c hs) (nw_s hs) (by rw [shT_len (by omega)]; exact hid) hd hq ?_
  rw [shT_push hk]
  exact kk _ (h.na (f := fun _ => -1) (x := some vs) (fun k v hv => (hvs v (List.mem_of_getElem? hv)).symm) (by rw [hkt]; exact hid))
theorem nT_new {CC : String} {T : u_T} (h : IS ct o c t) (hk : SHL[k]? = some (kd, n)) (hkt : o + t.length = k) (hb : k + 1 ≤ b) (hb2 : b ≤ 114) (hcl : clOk kd CC T n) (hft : ∀ k, k < n → tyOf kd k ≠ .float ∧ tyOf kd k ≠ .double) (hw : Cond.classLink Y.1.cls idx CC ∈ mbTB) (hin : Cond.instantiable CC n ∈ mbTB) (hii : Cond.initialized CC ∈ mbTB) (hid : (k : Int) = idI) (hdl : (List.range n).map (fun j => dflt (tyOf kd j)) = dl) (hd : decode Y.2.1 pc = .ok (.new idx, 3)) (hq : pc + 3 = q) (kk : ∀ c', IS ct o c' (t ++ [some dl]) → G (mkK Y d (SHL.take a) (SHL.take b) Po) q ls (.inr (.inr idI) :: st) (SHL.take (k + 1)) c') : G (mkK Y d (SHL.take a) (SHL.take b) Po) pc ls st (SHL.take k) c := by
  have hs : shLe (SHL.take k ++ [(kd, n)]) (SHL.take b) := by rw [shT_push hk]; exact shT_le hb
  refine g_new (idI := idI) hcl hft hw hin hii (nw_c hs) (nw_s hs) (by rw [shT_len (by omega)]; exact hid) hd hq ?_
  rw [shT_push hk]
  refine kk _ (h.na (f := fun j => dflt (tyOf kd j.toNat)) (x := some dl) (fun k v hv => ?_) (by rw [hkt]; exact hid))
  rw [← hdl, List.getElem?_map] at hv
  obtain ⟨j, hj, e⟩ := Option.map_eq_some_iff.mp hv
  have hj2 : j = k := by
    by_cases hkn : k < n
    · rw [List.getElem?_range hkn] at hj
      exact (Option.some.inj hj).symm
    · rw [List.getElem?_eq_none (by rw [List.length_range]; omega)] at hj
      cases hj
  rw [hj2] at e
  show dflt (tyOf kd ((k : Nat) : Int).toNat) = v
  rw [Int.toNat_natCast]
  exact e
end
