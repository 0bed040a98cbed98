/-! Layers: rows counted -/
def oS (o g F : Int → Int) (e : Nat) : Nat → Int
  | 0 => 0
  | n + 1 => oS o g F e n + g (o ((e + n : Nat) : Int)) * F (o ((e + n : Nat) : Int))
/-- a layer: states that differ, just those whose number of rows isn't 0 -/
def LYo (o g : Int → Int) (e n : Nat) : Prop := (∀ t, t < n → 0 ≤ o ((e + t : Nat) : Int) ∧ o ((e + t : Nat) : Int) < 700) ∧ (∀ t u, t < n → u < n → o ((e + t : Nat) : Int) = o ((e + u : Nat) : Int) → t = u) ∧ (∀ st : Int, 0 ≤ st → st < 700 → 0 ≤ g st ∧ (g st ≠ 0 ↔ ∃ t, t < n ∧ o ((e + t : Nat) : Int) = st))
theorem oS_cong {o g F o2 g2 F2 : Int → Int} {e : Nat} : ∀ {n : Nat}, (∀ t, t < n → o2 ((e + t : Nat) : Int) = o ((e + t : Nat) : Int) ∧ g2 (o ((e + t : Nat) : Int)) = g (o ((e + t : Nat) : Int)) ∧ F2 (o ((e + t : Nat) : Int)) = F (o ((e + t : Nat) : Int))) → oS o2 g2 F2 e n = oS o g F e n
  | 0, _ => rfl
  | n + 1, h => by
    unfold oS
    have h1 := h n (by omega)
    rw [oS_cong (fun t ht => h t (by omega)), h1.1, h1.2.1, h1.2.2]
theorem oS_upd {o g g2 F : Int → Int} {e : Nat} {to x : Int} (hg : g2 to = g to + x) (hg2 : ∀ s, s ≠ to → g2 s = g s) : ∀ {n t0 : Nat}, t0 < n → o ((e + t0 : Nat) : Int) = to → (∀ t u, t < n → u < n → o ((e + t : Nat) : Int) = o ((e + u : Nat) : Int) → t = u) → oS o g2 F e n = oS o g F e n + x * F to
  | 0, t0, h, _, _ => by omega
  | n + 1, t0, h, ho, hd => by
    unfold oS
    by_cases e1 : t0 = n
    · subst e1
      rw [ho, hg]
      have : oS o g2 F e t0 = oS o g F e t0 := oS_cong (fun t ht => ⟨rfl, hg2 _ (fun h => by
        have := hd t t0 (by omega) (by omega) (h.trans ho.symm)
        omega), rfl⟩)
      rw [this, Int.add_mul]
      omega
    · have ih := oS_upd hg hg2 (n := n) (t0 := t0) (F := F) (by omega) ho (fun t u h1 h2 h3 => hd t u (by omega) (by omega) h3)
      rw [ih, hg2 (o ((e + n : Nat) : Int)) (fun h => e1 (hd t0 n (by omega) (by omega) (ho.trans h.symm)))]
      omega
theorem LYo.len {o g : Int → Int} {e n : Nat} (h : LYo o g e n) : n ≤ 700 := pig 700 n (fun t => (o ((e + t : Nat) : Int)).toNat) (fun t ht => by have := h.1 t ht; omega) (fun t u ht hu he => h.2.1 t u ht hu (by have := h.1 t ht; have := h.1 u hu; have he' : (o ((e + t : Nat) : Int)).toNat = (o ((e + u : Nat) : Int)).toNat := he; omega))
/-- some rows more lead to a state of the layer -/
theorem LYo.old {o g g2 : Int → Int} {e n : Nat} {to x : Int} (h : LYo o g e n) (h0 : 0 ≤ to) (h1 : to < 700) (hx : 0 < x) (hn : g to ≠ 0) (hg : g2 to = g to + x) (hg2 : ∀ s, s ≠ to → g2 s = g s) : LYo o g2 e n ∧ ∀ F, oS o g2 F e n = oS o g F e n + x * F to := by
  obtain ⟨a, b, c⟩ := h
  obtain ⟨t0, t1, t2⟩ := (c to h0 h1).2.mp hn
  refine ⟨⟨a, b, fun st s0 s1 => ?_⟩, fun F => oS_upd hg hg2 t1 t2 b⟩
  by_cases es : st = to
  · subst es
    rw [hg]
    have := (c st s0 s1).1
    refine ⟨by omega, fun _ => ⟨t0, t1, t2⟩, fun _ => by omega⟩
  · rw [hg2 st es]
    exact c st s0 s1
/-- the first rows that lead to a state -/
theorem LYo.new {o o2 g g2 : Int → Int} {e n : Nat} {to x : Int} (h : LYo o g e n) (h0 : 0 ≤ to) (h1 : to < 700) (hx : 0 < x) (hn : g to = 0) (hg : g2 to = g to + x) (hg2 : ∀ s, s ≠ to → g2 s = g s) (ho : o2 ((e + n : Nat) : Int) = to) (ho2 : ∀ t, t < n → o2 ((e + t : Nat) : Int) = o ((e + t : Nat) : Int)) : LYo o2 g2 e (n + 1) ∧ ∀ F, oS o2 g2 F e (n + 1) = oS o g F e n + x * F to := by
  obtain ⟨a, b, c⟩ := h
  have hno : ∀ t, t < n → o ((e + t : Nat) : Int) ≠ to := by
    intro t ht he
    exact (c to h0 h1).2.mpr ⟨t, ht, he⟩ hn
  refine ⟨⟨fun t ht => ?_, fun t u ht hu he => ?_, fun st s0 s1 => ?_⟩, fun F => ?_⟩
  · by_cases e1 : t = n
    · subst e1
      rw [ho]
      exact ⟨h0, h1⟩
    · rw [ho2 t (by omega)]
      exact a t (by omega)
  · by_cases e1 : t = n
    · by_cases e2 : u = n
      · omega
      · rw [e1, ho, ho2 u (by omega)] at he
        exact absurd he.symm (hno u (by omega))
    · by_cases e2 : u = n
      · rw [e2, ho, ho2 t (by omega)] at he
        exact absurd he (hno t (by omega))
      · rw [ho2 t (by omega), ho2 u (by omega)] at he
        exact b t u (by omega) (by omega) he
  · by_cases es : st = to
    · subst es
      rw [hg, hn]
      refine ⟨by omega, fun _ => ⟨n, by omega, ho⟩, fun _ => by omega⟩
    · rw [hg2 st es]
      refine ⟨(c st s0 s1).1, ?_⟩
      rw [(c st s0 s1).2]
      constructor
      · rintro ⟨t, t1, t2⟩
        exact ⟨t, by omega, by rw [ho2 t t1]; exact t2⟩
      · rintro ⟨t, t1, t2⟩
        by_cases e1 : t = n
        · subst e1
          rw [ho] at t2
          exact absurd t2.symm es
        · rw [ho2 t (by omega)] at t2
          exact ⟨t, by omega, t2⟩
  · show oS o2 g2 F e n + g2 (o2 ((e + n : Nat) : Int)) * F (o2 ((e + n : Nat) : Int)) = _
    rw [ho, hg, hn, oS_cong (F2 := F) (o2 := o2) (g2 := g2) (o := o) (g := g) (fun t ht => ⟨ho2 t ht, hg2 _ (hno t ht), rfl⟩), Int.zero_add]
def lsum (f : Nat → Int) : List Nat → Int
  | [] => 0
  | a :: l => f a + lsum f l
theorem lsum_app (f : Nat → Int) : ∀ l l2, lsum f (l ++ l2) = lsum f l + lsum f l2
  | [], l2 => by simp [lsum]
  | a :: l, l2 => by
    show f a + lsum f (l ++ l2) = f a + lsum f l + lsum f l2
    rw [lsum_app f l l2]
    omega
theorem lsum_take (f : Nat → Int) {l : List Nat} {k : Nat} (h : k < l.length) : lsum f (l.take (k + 1)) = lsum f (l.take k) + f l[k] := by
  rw [List.take_add_one, lsum_app, List.getElem?_eq_getElem h]
  simp [lsum]
/-- how many rows go on from a state to an end with a tone, as told, with so many places left -/
def cW (β : Bk) (mk : Int → Int) (tone : Int) (tl : Int → Int) (n : Nat) : Nat → Int → Int
  | 0, st => b01 (enB β st tone = true)
  | r + 1, st => lsum (fun i => cW β mk tone tl n r (nxB β st (i / 8 : Nat) (i % 8 : Nat))) (brL (alwN 1 β mk st (tl ((n - (r + 1) : Nat) : Int))) 48)
theorem oS_nn {o g : Int → Int} {e : Nat} : ∀ {n : Nat}, (∀ t, t < n → 0 ≤ g (o ((e + t : Nat) : Int))) → 0 ≤ oS o g (fun _ => 1) e n
  | 0, _ => Int.le_refl _
  | n + 1, h => by
    unfold oS
    have := oS_nn (n := n) (fun t ht => h t (by omega))
    have := h n (by omega)
    omega
theorem oS_le {o g : Int → Int} {e : Nat} : ∀ {n t0 : Nat}, t0 < n → (∀ t, t < n → 0 ≤ g (o ((e + t : Nat) : Int))) → g (o ((e + t0 : Nat) : Int)) ≤ oS o g (fun _ => 1) e n
  | 0, t0, h, _ => by omega
  | n + 1, t0, h, hn => by
    unfold oS
    by_cases e1 : t0 = n
    · subst e1
      have := oS_nn (n := t0) (fun t ht => hn t (by omega))
      omega
    · have := oS_le (n := n) (t0 := t0) (by omega) (fun t ht => hn t (by omega))
      have := hn n (by omega)
      omega
theorem oS_mono {o g : Int → Int} {e j : Nat} : ∀ {n : Nat}, j ≤ n → (∀ t, t < n → 0 ≤ g (o ((e + t : Nat) : Int))) → oS o g (fun _ => 1) e j ≤ oS o g (fun _ => 1) e n
  | 0, h, _ => by
    have : j = 0 := by omega
    subst this
    exact Int.le_refl _
  | n + 1, h, hn => by
    by_cases e1 : j = n + 1
    · subst e1
      exact Int.le_refl _
    · have := oS_mono (n := n) (j := j) (by omega) (fun t ht => hn t (by omega))
      have := hn n (by omega)
      show oS o g (fun _ => 1) e j ≤ oS o g (fun _ => 1) e n + g (o ((e + n : Nat) : Int)) * 1
      omega
theorem LYo.nn {o g : Int → Int} {e n : Nat} (h : LYo o g e n) : ∀ t, t < n → 0 ≤ g (o ((e + t : Nat) : Int)) := fun t ht => (h.2.2 _ (h.1 t ht).1 (h.1 t ht).2).1
theorem LYo.le {o g : Int → Int} {e n : Nat} (h : LYo o g e n) {st : Int} (h0 : 0 ≤ st) (h1 : st < 700) : 0 ≤ g st ∧ g st ≤ oS o g (fun _ => 1) e n := by
  refine ⟨(h.2.2 st h0 h1).1, ?_⟩
  by_cases e1 : g st = 0
  · rw [e1]
    exact oS_nn h.nn
  · obtain ⟨t, t1, t2⟩ := (h.2.2 st h0 h1).2.mp e1
    rw [← t2]
    exact oS_le t1 h.nn
/-- what stands while a layer is gone through: j states are done; x more rows and y more in sum of the next one -/
def CL (ct : mbCt) (b : Int) (β : Bk) (mk : Int → Int) (a bb : Int) (p e : Nat) (Fn F0 : Int → Int) (x y : Int) (j n : Nat) (c : mbCt) : Prop := eqBut [68, 69, 72, 73, 75, 76, 83, 85, 86] ct c ∧ MV c b β mk ∧ (∀ t : Nat, t < e → c 83 t = ct 83 t) ∧ LYo (c 83) (c bb) e n ∧ oS (c 83) (c bb) Fn e n = oS (ct 83) (ct a) F0 p j + y ∧ oS (c 83) (c bb) (fun _ => 1) e n ≤ 48 * oS (ct 83) (ct a) (fun _ => 1) p j + x ∧ (∀ t : Nat, t < j → c a (ct 83 ((p + t : Nat) : Int)) = 0) ∧ (∀ st : Int, 0 ≤ st → st < 700 → (∀ t : Nat, t < j → ct 83 ((p + t : Nat) : Int) ≠ st) → c a st = ct a st)
def CLPost (ct : mbCt) (b : Int) (β : Bk) (mk : Int → Int) (a bb i : Int) (p m e : Nat) (Fn F0 : Int → Int) (c : mbCt) : Prop := ∃ n : Nat, eqBut [68, 69, 72, 73, 75, 76, 83, 84, 85, 86] ct c ∧ MV c b β mk ∧ c 84 (i + 2) = ((e + n : Nat) : Int) ∧ (∀ k, k ≠ i + 2 → c 84 k = ct 84 k) ∧ LYo (c 83) (c bb) e n ∧ oS (c 83) (c bb) Fn e n = oS (ct 83) (ct a) F0 p m ∧ oS (c 83) (c bb) (fun _ => 1) e n ≤ 48 * oS (ct 83) (ct a) (fun _ => 1) p m ∧ (∀ st : Int, 0 ≤ st → st < 700 → c a st = 0)
section
variable (d : Nat) (sh : mbSh) (ct : mbCt)
theorem c_countLayer {i b a bb t : Int} {β : Bk} {mk : Int → Int} {p m e : Nat} {Fn F0 : Int → Int} (S : SH sh) (M : MV ct b β mk) (i0 : 0 ≤ i) (i1 : i < 12) (ht : ct 81 i = t) (ho : toldOk β t) (h8 : ct 80 8 = 1) (hab : (a = 85 ∧ bb = 86) ∨ (a = 86 ∧ bb = 85)) (h6 : ct 80 6 = a) (h7 : ct 80 7 = bb) (hp : ct 84 i = p) (he : ct 84 (i + 1) = e) (hem : e = p + m) (he2 : (e : Int) ≤ 700 * (i + 1)) (Y : LYo (ct 83) (ct a) p m) (hz : ∀ st : Int, 0 ≤ st → st < 700 → ct bb st = 0) (hS : 48 * oS (ct 83) (ct a) (fun _ => 1) p m < 4611686018427387904) (hF : ∀ st, F0 st = lsum (fun k => Fn (nxB β st (k / 8 : Nat) (k % 8 : Nat))) (brL (alwN 1 β mk st t) 48)) : Mt YX3_countLayer (d + 4) [.inr (.inr 80), .inl i] sh sh ct (pN fun c => CLPost ct b β mk a bb i p m e Fn F0 c) := by
  have L := M.L
  have s83 : shA sh 83 = some (20, 9100) := S.at _ rfl
  have s84 : shA sh 84 = some (20, 14) := S.at _ rfl
  have s76 : shA sh 76 = some (20, 48) := S.at _ rfl
  have sa : shA sh a = some (21, 700) := by rcases hab with ⟨h, -⟩ | ⟨h, -⟩ <;> rw [h] <;> exact S.at _ rfl
  have sb : shA sh bb = some (21, 700) := by rcases hab with ⟨-, h⟩ | ⟨-, h⟩ <;> rw [h] <;> exact S.at _ rfl
  have abne : a ≠ bb ∧ a ≠ 83 ∧ bb ≠ 83 ∧ a ≠ 80 ∧ bb ≠ 80 ∧ a ≠ 84 ∧ bb ≠ 84 := by rcases hab with ⟨rfl, rfl⟩ | ⟨rfl, rfl⟩ <;> decide
  have aA : a ∈ ([68, 69, 72, 73, 75, 76, 83, 85, 86] : List Int) := by rcases hab with ⟨rfl, -⟩ | ⟨rfl, -⟩ <;> decide
  have bA : bb ∈ ([68, 69, 72, 73, 75, 76, 83, 85, 86] : List Int) := by rcases hab with ⟨-, rfl⟩ | ⟨-, rfl⟩ <;> decide
  have mvw : ∀ (c : mbCt) (x k v : Int), (x = 83 ∨ x = 85 ∨ x = 86) → MV c b β mk → MV (wr c x k v) b β mk := by
    intro c x k v hx hM
    refine hM.far (A := [83, 85, 86]) (eqBut.rf.wr ?_) rfl
    rcases hx with rfl | rfl | rfl <;> decide
  have a85 : a = 83 ∨ a = 85 ∨ a = 86 := by rcases hab with ⟨rfl, -⟩ | ⟨rfl, -⟩ <;> decide
  have b85 : bb = 83 ∨ bb = 85 ∨ bb = 86 := by rcases hab with ⟨-, rfl⟩ | ⟨-, rfl⟩ <;> decide
  generalize hP : (pN fun c => CLPost ct b β mk a bb i p m e Fn F0 c) = Po
  have outer : ∀ (k j n : Nat) (c : mbCt) (o4 o5 o6 o7 : Option gV), j + k = m → CL ct b β mk a bb p e Fn F0 0 0 j n c → G (mkK YX3_countLayer (d + 4) sh sh Po) 16 [some (.inr (.inr 80)), some (.inl i), some (.inl ((e + n : Nat) : Int)), some (.inl ((p + j : Nat) : Int)), o4, o5, o6, o7] [] sh c := by
    intro k
    induction k with
    | zero =>
      intro j n c o4 o5 o6 o7 hj ⟨g1, g2, g3, g4, g5, g6, g7, g8⟩
      have hjm : j = m := by omega
      subst hjm
      have Lc := g2.L
      have e84 : c 84 = ct 84 := g1 84 (by decide)
      have hln := g4.len
      refine g_iload_n (q := 17) dX3_countLayer_16 rfl rfl ?_
      refine g_aload_n (q := 18) dX3_countLayer_17 rfl rfl ?_
      refine g_getA (q := 21) (kI := 5) fX3_22 (by first | assumption | exact S.at _ rfl) dX3_countLayer_18 rfl rfl (by first | assumption | exact L.at _ _ rfl | exact LK.at (by assumption) _ _ rfl | ((repeat first | rewrite [wr_na (by decide)] | rewrite [wr_nk (by decide)] | rewrite [wa_na (by decide)]); first | assumption | exact LK.at (by assumption) _ _ rfl) | exact rfl) ?_
      refine g_iload_n (q := 22) dX3_countLayer_21 rfl rfl ?_
      refine g_iconst (q := 23) dX3_countLayer_22 rfl ?_
      refine g_iadd (q := 24) dX3_countLayer_23 rfl ?_
      refine g_iaload (q := 25) (by first | assumption | exact S.at _ rfl) (by omega) (by omega) (by omega) dX3_countLayer_24 rfl ?_
      rw [e84, he]
      refine g_icmp_ge (q := 28) (tg := 127) dX3_countLayer_25 (by decide) rfl (fun c_25 => ?_) (fun c_25 => ?_)
      · refine g_aload_n (q := 128) dX3_countLayer_127 rfl rfl ?_
        refine g_getA (q := 131) (kI := 5) fX3_22 (by first | assumption | exact S.at _ rfl) dX3_countLayer_128 rfl rfl (by first | assumption | exact L.at _ _ rfl | exact LK.at (by assumption) _ _ rfl | ((repeat first | rewrite [wr_na (by decide)] | rewrite [wr_nk (by decide)] | rewrite [wa_na (by decide)]); first | assumption | exact LK.at (by assumption) _ _ rfl) | exact rfl) ?_
        refine g_iload_n (q := 132) dX3_countLayer_131 rfl rfl ?_
        refine g_iconst (q := 133) dX3_countLayer_132 rfl ?_
        refine g_iadd (q := 134) dX3_countLayer_133 rfl ?_
        refine g_iload_n (q := 135) dX3_countLayer_134 rfl rfl ?_
        refine g_iastore (q := 136) (by first | assumption | exact S.at _ rfl) (by omega) (by omega) (by omega) dX3_countLayer_135 rfl ?_
        refine g_return dX3_countLayer_136 rfl ?_
        rw [← hP]
        refine ⟨rfl, n, ?_, g2.far (A := [84]) (eqBut.rf.wr (by decide)) rfl, by rw [wr_eq], fun k hk => by rw [wr_nk hk, e84], ?_, ?_, ?_, ?_⟩
        · exact (g1.mono (by decide)).wr (by decide)
        · rw [wr_other _ _ _ _ _ (by decide), wr_other _ _ _ _ _ abne.2.2.2.2.2.2]
          exact g4
        · rw [wr_other _ _ _ _ _ (by decide), wr_other _ _ _ _ _ abne.2.2.2.2.2.2, g5]
          omega
        · rw [wr_other _ _ _ _ _ (by decide), wr_other _ _ _ _ _ abne.2.2.2.2.2.2]
          omega
        · intro st s0 s1
          rw [wr_na abne.2.2.2.2.2.1]
          by_cases h : ∃ t, t < j ∧ ct 83 ((p + t : Nat) : Int) = st
          · obtain ⟨t, t1, t2⟩ := h
            rw [← t2]
            exact g7 t t1
          · rw [g8 st s0 s1 (fun t ht he => h ⟨t, ht, he⟩)]
            exact Classical.not_not.mp (fun hh => h ((Y.2.2 st s0 s1).2.mp hh))
      · exact absurd c_25 (by unfold w32; omega)
    | succ k ih =>
      intro j n c o4 o5 o6 o7 hj hCL
      obtain ⟨g1, g2, g3, g4, g5, g6, g7, g8⟩ := id hCL
      have Lc := g2.L
      have e84 : c 84 = ct 84 := g1 84 (by decide)
      have e80 : c 80 = ct 80 := g1 80 (by decide)
      have e81 : c 81 = ct 81 := g1 81 (by decide)
      have hln := g4.len
      generalize hst : ct 83 ((p + j : Nat) : Int) = st
      have hs : 0 ≤ st ∧ st < 700 := by rw [← hst]; exact Y.1 j (by omega)
      have hcst : c 83 ((p + j : Nat) : Int) = st := by rw [g3 _ (by omega)]; exact hst
      have hx0 : c a st = ct a st := g8 st hs.1 hs.2 (fun t ht he => by
        have := Y.2.1 t j (by omega) (by omega) (he.trans hst.symm)
        omega)
      have hxp : 0 < ct a st := by
        have h1 := (Y.2.2 st hs.1 hs.2)
        have h2 := h1.2.mpr ⟨j, by omega, hst⟩
        have := h1.1
        omega
      have hxS := Y.le hs.1 hs.2
      have hmono := oS_mono (o := ct 83) (g := ct a) (e := p) (show j + 1 ≤ m by omega) Y.nn
      have hSj : oS (ct 83) (ct a) (fun _ => 1) p (j + 1) = oS (ct 83) (ct a) (fun _ => 1) p j + ct a st := by
        show oS (ct 83) (ct a) (fun _ => 1) p j + ct a (ct 83 ((p + j : Nat) : Int)) * 1 = _
        rw [hst]
        omega
      have hFj : oS (ct 83) (ct a) F0 p (j + 1) = oS (ct 83) (ct a) F0 p j + ct a st * F0 st := by
        show oS (ct 83) (ct a) F0 p j + ct a (ct 83 ((p + j : Nat) : Int)) * F0 (ct 83 ((p + j : Nat) : Int)) = _
        rw [hst]
      refine g_iload_n (q := 17) dX3_countLayer_16 rfl rfl ?_
      refine g_aload_n (q := 18) dX3_countLayer_17 rfl rfl ?_
      refine g_getA (q := 21) (kI := 5) fX3_22 (by first | assumption | exact S.at _ rfl) dX3_countLayer_18 rfl rfl (by first | assumption | exact L.at _ _ rfl | exact LK.at (by assumption) _ _ rfl | ((repeat first | rewrite [wr_na (by decide)] | rewrite [wr_nk (by decide)] | rewrite [wa_na (by decide)]); first | assumption | exact LK.at (by assumption) _ _ rfl) | exact rfl) ?_
      refine g_iload_n (q := 22) dX3_countLayer_21 rfl rfl ?_
      refine g_iconst (q := 23) dX3_countLayer_22 rfl ?_
      refine g_iadd (q := 24) dX3_countLayer_23 rfl ?_
      refine g_iaload (q := 25) (by first | assumption | exact S.at _ rfl) (by omega) (by omega) (by omega) dX3_countLayer_24 rfl ?_
      rw [e84, he]
      refine g_icmp_ge (q := 28) (tg := 127) dX3_countLayer_25 (by decide) rfl (fun c_25 => ?_) (fun c_25 => ?_)
      · exact absurd c_25 (by unfold w32; omega)
      · refine g_aload_n (q := 29) dX3_countLayer_28 rfl rfl ?_
        refine g_getA (q := 32) (kI := 4) fX3_19 (by first | assumption | exact S.at _ rfl) dX3_countLayer_29 rfl rfl (by first | assumption | exact L.at _ _ rfl | exact LK.at (by assumption) _ _ rfl | ((repeat first | rewrite [wr_na (by decide)] | rewrite [wr_nk (by decide)] | rewrite [wa_na (by decide)]); first | assumption | exact LK.at (by assumption) _ _ rfl) | exact rfl) ?_
        refine g_iload_n (q := 33) dX3_countLayer_32 rfl rfl ?_
        refine g_iaload (q := 34) (by first | assumption | exact S.at _ rfl) (by omega) (by omega) (by omega) dX3_countLayer_33 rfl ?_
        rw [hcst]
        refine s_istore_8_4 (q := 36) dX3_countLayer_34 rfl rfl rfl ?_
        refine g_aload_n (q := 37) dX3_countLayer_36 rfl rfl ?_
        refine g_iload_n (q := 38) dX3_countLayer_37 rfl rfl ?_
        refine g_iload (q := 40) dX3_countLayer_38 rfl rfl ?_
        refine g_callV (q := 43) lX3_83 mX3_branchFor nX3_branchFor rfl (c_branchFor d sh c S g2 i0 i1 (by rw [e81]; exact ht) ho hs.1 hs.2 (Or.inr (by rw [e80]; exact h8))) (by first | assumption | exact S.at _ rfl) rfl rfl shLe.rf (rmOk.mk (by omega) (by first | exact shLe.rf | assumption)) (Nat.le_of_ble_eq_true rfl) dX3_countLayer_40 rfl rfl (kI fun r c2 hp => ?_)
        obtain ⟨rfl, r75, r76, m1⟩ := hp
        rw [e80, h8] at r75 r76 ⊢
        generalize hZ : alwN 1 β mk st t = Z at r75 r76
        have hbl := brL_len Z 48
        have inner : ∀ (k2 u n : Nat) (c3 : mbCt) (o7 : Option gV), u + k2 = (brL Z 48).length → CL ct b β mk a bb p e Fn F0 (u * ct a st) (ct a st * lsum (fun k => Fn (nxB β st (k / 8 : Nat) (k % 8 : Nat))) ((brL Z 48).take u)) j n c3 → c3 76 = c2 76 → G (mkK YX3_countLayer (d + 4) sh sh Po) 48 [some (.inr (.inr 80)), some (.inl i), some (.inl ((e + n : Nat) : Int)), some (.inl ((p + j : Nat) : Int)), some (.inl st), some (.inl ((brL Z 48).length : Nat)), some (.inl u), o7] [] sh c3 := by
          intro k2
          induction k2 with
          | zero =>
            intro u n c3 o7 hu ⟨q1, q2, q3, q4, q5, q6, q7, q8⟩ e76
            have L3 := q2.L
            have f80 : c3 80 = ct 80 := q1 80 (by decide)
            have hue : u = (brL Z 48).length := by omega
            have l6 : c3 80 6 = a := by rw [f80]; exact h6
            refine g_iload (q := 50) dX3_countLayer_48 rfl rfl ?_
            refine g_iload (q := 52) dX3_countLayer_50 rfl rfl ?_
            refine g_icmp_ge (q := 55) (tg := 113) dX3_countLayer_52 (by decide) rfl (fun c_52 => ?_) (fun c_52 => ?_)
            · refine g_aload_n (q := 114) dX3_countLayer_113 rfl rfl ?_
              refine g_getA (q := 117) (kI := 6) fX3_25 (by first | assumption | exact S.at _ rfl) dX3_countLayer_114 rfl rfl (by first | assumption | exact L.at _ _ rfl | exact LK.at (by assumption) _ _ rfl | ((repeat first | rewrite [wr_na (by decide)] | rewrite [wr_nk (by decide)] | rewrite [wa_na (by decide)]); first | assumption | exact LK.at (by assumption) _ _ rfl) | exact rfl) ?_
              refine g_iload (q := 119) dX3_countLayer_117 rfl rfl ?_
              refine g_lconst0 (q := 120) dX3_countLayer_119 rfl ?_
              refine g_lastore (q := 121) (by first | assumption | exact S.at _ rfl) (by omega) (by omega) (by omega) dX3_countLayer_120 rfl ?_
              refine s_iinc_8_3 (q := 124) dX3_countLayer_121 rfl rfl rfl ?_
              refine g_goto (q := 16) dX3_countLayer_124 (by decide) ?_
              have := ih (j + 1) n (wr c3 a st 0) (some (.inl st)) (some (.inl ((brL Z 48).length : Nat))) (some (.inl u)) o7 (by omega) ?_
              · rw [show ((p + (j + 1) : Nat) : Int) = ((p + j : Nat) : Int) + 1 by omega] at this
                exact this
              · refine ⟨q1.wr aA, mvw _ _ _ _ a85 q2, fun t ht => by rw [wr_na abne.2.1.symm]; exact q3 t ht, ?_, ?_, ?_, ?_, ?_⟩
                · rw [wr_other _ _ _ _ _ abne.2.1.symm, wr_other _ _ _ _ _ abne.1.symm]
                  exact q4
                · rw [wr_other _ _ _ _ _ abne.2.1.symm, wr_other _ _ _ _ _ abne.1.symm, q5, hFj, hF st, hZ, hue, List.take_length]
                  omega
                · rw [wr_other _ _ _ _ _ abne.2.1.symm, wr_other _ _ _ _ _ abne.1.symm, hSj]
                  have : (u : Int) * ct a st ≤ 48 * ct a st := Int.mul_le_mul_of_nonneg_right (by omega) (by omega)
                  omega
                · intro t ht
                  by_cases et : ct 83 ((p + t : Nat) : Int) = st
                  · rw [et, wr_eq]
                  · rw [wr_nk et]
                    refine q7 t ?_
                    by_cases e2 : t = j
                    · subst e2
                      exact absurd hst et
                    · omega
                · intro st' s0 s1 hno
                  have h1 : st' ≠ st := fun h => hno j (by omega) (by rw [hst, h])
                  rw [wr_nk h1]
                  exact q8 st' s0 s1 (fun t ht => hno t (by omega))
            · exact absurd c_52 (by unfold w32; omega)
          | succ k2 ih2 =>
            intro u n c3 o7 hu ⟨q1, q2, q3, q4, q5, q6, q7, q8⟩ e76
            have L3 := q2.L
            have f80 : c3 80 = ct 80 := q1 80 (by decide)
            have l6 : c3 80 6 = a := by rw [f80]; exact h6
            have l7 : c3 80 7 = bb := by rw [f80]; exact h7
            have hul : u < (brL Z 48).length := by omega
            generalize hto : nxB β st ((brL Z 48)[u] / 8 : Nat) ((brL Z 48)[u] % 8 : Nat) = to
            have hmm := brL_mem.mp (List.getElem_mem hul)
            have hti : 0 ≤ to ∧ to < 700 := by rw [← hto]; exact nxB_in (by omega) (by omega)
            have v76 : c3 76 u = to := by rw [e76, r76 u hul, ← hto]
            have hxa : c3 a st = ct a st := q8 st hs.1 hs.2 (fun t ht he => by
              have := Y.2.1 t j (by omega) (by omega) (he.trans hst.symm)
              omega)
            have hle := q4.le hti.1 hti.2
            have hub : (u : Int) * ct a st ≤ 48 * ct a st := Int.mul_le_mul_of_nonneg_right (by omega) (by omega)
            have hlen := q4.len
            -- behind the branch
            have add : ∀ (n2 : Nat) (c4 : mbCt), eqBut [83] c3 c4 → (∀ t : Nat, t < e → c4 83 t = c3 83 t) → (∀ v, LYo (c4 83) ((wr c4 bb to v) bb) e n2 ∨ True) → (LYo (c4 83) (wr c4 bb to (c3 bb to + ct a st) bb) e n2 ∧ ∀ F, oS (c4 83) (wr c4 bb to (c3 bb to + ct a st) bb) F e n2 = oS (c3 83) (c3 bb) F e n + ct a st * F to) → G (mkK YX3_countLayer (d + 4) sh sh Po) 90 [some (.inr (.inr 80)), some (.inl i), some (.inl ((e + n2 : Nat) : Int)), some (.inl ((p + j : Nat) : Int)), some (.inl st), some (.inl ((brL Z 48).length : Nat)), some (.inl u), some (.inl to)] [] sh c4 := by
              intro n2 c4 w1 w2 _ w3
              have M4 : MV c4 b β mk := q2.far (A := [83]) w1 rfl
              have L4 := M4.L
              have x80 : c4 80 = ct 80 := (w1 80 (by decide)).trans f80
              have x6 : c4 80 6 = a := by rw [x80]; exact h6
              have x7 : c4 80 7 = bb := by rw [x80]; exact h7
              have xb : c4 bb = c3 bb := w1 bb (by simp; exact abne.2.2.1)
              have xa : c4 a = c3 a := w1 a (by simp; exact abne.2.1)
              refine g_aload_n (q := 91) dX3_countLayer_90 rfl rfl ?_
              refine g_getA (q := 94) (kI := 7) fX3_29 (by first | assumption | exact S.at _ rfl) dX3_countLayer_91 rfl rfl (by first | assumption | exact L.at _ _ rfl | exact LK.at (by assumption) _ _ rfl | ((repeat first | rewrite [wr_na (by decide)] | rewrite [wr_nk (by decide)] | rewrite [wa_na (by decide)]); first | assumption | exact LK.at (by assumption) _ _ rfl) | exact rfl) ?_
              refine g_iload (q := 96) dX3_countLayer_94 rfl rfl ?_
              refine g_dup2 (q := 97) dX3_countLayer_96 rfl rfl rfl ?_
              refine g_laload (q := 98) (by first | assumption | exact S.at _ rfl) (by omega) (by omega) (by omega) dX3_countLayer_97 rfl ?_
              refine g_aload_n (q := 99) dX3_countLayer_98 rfl rfl ?_
              refine g_getA (q := 102) (kI := 6) fX3_25 (by first | assumption | exact S.at _ rfl) dX3_countLayer_99 rfl rfl (by first | assumption | exact L.at _ _ rfl | exact LK.at (by assumption) _ _ rfl | ((repeat first | rewrite [wr_na (by decide)] | rewrite [wr_nk (by decide)] | rewrite [wa_na (by decide)]); first | assumption | exact LK.at (by assumption) _ _ rfl) | exact rfl) ?_
              refine g_iload (q := 104) dX3_countLayer_102 rfl rfl ?_
              refine g_laload (q := 105) (by first | assumption | exact S.at _ rfl) (by omega) (by omega) (by omega) dX3_countLayer_104 rfl ?_
              rw [xb, xa, hxa]
              refine g_ladd (q := 106) dX3_countLayer_105 rfl ?_
              refine g_lastore (q := 107) (by first | assumption | exact S.at _ rfl) (by omega) (by omega) (by omega) dX3_countLayer_106 rfl ?_
              refine s_iinc_8_6 (q := 110) dX3_countLayer_107 rfl rfl rfl ?_
              refine g_goto (q := 48) dX3_countLayer_110 (by decide) ?_
              have := ih2 (u + 1) n2 (wr c4 bb to (c3 bb to + ct a st)) (some (.inl to)) (by omega) ?_ ?_
              · rw [Int.natCast_succ] at this
                exact this
              · have c83 : wr c4 bb to (c3 bb to + ct a st) 83 = c4 83 := wr_other _ _ _ _ _ abne.2.2.1.symm
                have ca : wr c4 bb to (c3 bb to + ct a st) a = c3 a := (wr_other _ _ _ _ _ abne.1).trans xa
                refine ⟨(q1.tr (w1.mono (by decide))).wr bA, mvw _ _ _ _ b85 M4, fun t ht => by rw [c83, w2 t ht]; exact q3 t ht, ?_, ?_, ?_, ?_, ?_⟩
                · rw [c83]
                  exact w3.1
                · rw [c83, w3.2, q5, lsum_take _ hul, Int.mul_add]
                  show _ = _ + (_ + ct a st * Fn (nxB β st ((brL Z 48)[u] / 8 : Nat) ((brL Z 48)[u] % 8 : Nat)))
                  rw [hto]
                  omega
                · rw [c83, w3.2, Int.natCast_succ, Int.add_mul]
                  omega
                · rw [ca]
                  exact q7
                · rw [ca]
                  exact q8
              · rw [wr_other _ _ _ _ _ (by rcases b85 with h | h | h <;> rw [h] <;> decide), w1 76 (by decide)]
                exact e76
            refine g_iload (q := 50) dX3_countLayer_48 rfl rfl ?_
            refine g_iload (q := 52) dX3_countLayer_50 rfl rfl ?_
            refine g_icmp_ge (q := 55) (tg := 113) dX3_countLayer_52 (by decide) rfl (fun c_52 => ?_) (fun c_52 => ?_)
            · exact absurd c_52 (by unfold w32; omega)
            · refine g_aload_n (q := 56) dX3_countLayer_55 rfl rfl ?_
              refine g_getO (q := 59) (kI := 0) fX3_36 (by first | assumption | exact S.at _ rfl) dX3_countLayer_56 rfl rfl (by first | assumption | exact L.at _ _ rfl | exact LK.at (by assumption) _ _ rfl | ((repeat first | rewrite [wr_na (by decide)] | rewrite [wr_nk (by decide)] | rewrite [wa_na (by decide)]); first | assumption | exact LK.at (by assumption) _ _ rfl) | exact rfl) ?_
              refine g_getA (q := 62) (kI := 9) fX3_86 (by first | assumption | exact S.at _ rfl) dX3_countLayer_59 rfl rfl (by first | assumption | exact L.at _ _ rfl | exact LK.at (by assumption) _ _ rfl | ((repeat first | rewrite [wr_na (by decide)] | rewrite [wr_nk (by decide)] | rewrite [wa_na (by decide)]); first | assumption | exact LK.at (by assumption) _ _ rfl) | exact rfl) ?_
              refine g_iload (q := 64) dX3_countLayer_62 rfl rfl ?_
              refine g_iaload (q := 65) (by first | assumption | exact S.at _ rfl) (by omega) (by omega) (by omega) dX3_countLayer_64 rfl ?_
              rw [v76]
              refine s_istore_8_7 (q := 67) dX3_countLayer_65 rfl rfl rfl ?_
              refine g_aload_n (q := 68) dX3_countLayer_67 rfl rfl ?_
              refine g_getA (q := 71) (kI := 7) fX3_29 (by first | assumption | exact S.at _ rfl) dX3_countLayer_68 rfl rfl (by first | assumption | exact L.at _ _ rfl | exact LK.at (by assumption) _ _ rfl | ((repeat first | rewrite [wr_na (by decide)] | rewrite [wr_nk (by decide)] | rewrite [wa_na (by decide)]); first | assumption | exact LK.at (by assumption) _ _ rfl) | exact rfl) ?_
              refine g_iload (q := 73) dX3_countLayer_71 rfl rfl ?_
              refine g_laload (q := 74) (by first | assumption | exact S.at _ rfl) (by omega) (by omega) (by omega) dX3_countLayer_73 rfl ?_
              refine g_lconst0 (q := 75) dX3_countLayer_74 rfl ?_
              refine g_lcmp (q := 76) dX3_countLayer_75 rfl ?_
              refine g_if_ne (q := 79) (tg := 90) dX3_countLayer_76 (by decide) rfl (fun c_76 => ?_) (fun c_76 => ?_)
              · have hnz : c3 bb to ≠ 0 := by
                  intro h
                  rw [h] at c_76
                  exact c_76 rfl
                refine add n c3 eqBut.rf (fun _ _ => rfl) (fun _ => Or.inr trivial) ?_
                have := q4.old (g2 := wr c3 bb to (c3 bb to + ct a st) bb) hti.1 hti.2 hxp hnz wr_eq (fun s hs => wr_nk hs)
                exact this
              · have hz0 : c3 bb to = 0 := by
                  have h1 : cmpL (c3 bb to) 0 = 0 := by
                    unfold w32 at c_76
                    unfold cmpL at c_76 ⊢
                    split
                    · rfl
                    · rename_i h
                      rw [if_neg h] at c_76
                      split at c_76
                      · exact absurd c_76 (by decide)
                      · exact absurd c_76 (by decide)
                  unfold cmpL w64 at h1
                  split at h1
                  · omega
                  · split at h1
                    · exact absurd h1 (by decide)
                    · exact absurd h1 (by decide)
                have hlt : n < 700 := by
                  have h2 := q4.new (o2 := fun k => if k = ((e + n : Nat) : Int) then to else c3 83 k) (g2 := wr c3 bb to (c3 bb to + ct a st) bb) hti.1 hti.2 hxp hz0 wr_eq (fun s hs => wr_nk hs) (if_pos rfl) (fun t ht => if_neg (by omega))
                  have := h2.1.len
                  omega
                refine g_aload_n (q := 80) dX3_countLayer_79 rfl rfl ?_
                refine g_getA (q := 83) (kI := 4) fX3_19 (by first | assumption | exact S.at _ rfl) dX3_countLayer_80 rfl rfl (by first | assumption | exact L.at _ _ rfl | exact LK.at (by assumption) _ _ rfl | ((repeat first | rewrite [wr_na (by decide)] | rewrite [wr_nk (by decide)] | rewrite [wa_na (by decide)]); first | assumption | exact LK.at (by assumption) _ _ rfl) | exact rfl) ?_
                refine g_iload_n (q := 84) dX3_countLayer_83 rfl rfl ?_
                refine g_iload (q := 86) dX3_countLayer_84 rfl rfl ?_
                refine g_iastore (q := 87) (by first | assumption | exact S.at _ rfl) (by omega) (by omega) (by omega) dX3_countLayer_86 rfl ?_
                refine s_iinc_8_2 (q := 90) dX3_countLayer_87 rfl rfl rfl ?_
                have := add (n + 1) (wr c3 83 ((e + n : Nat) : Int) to) (eqBut.rf.wr (by decide)) (fun t ht => by rw [wr_nk (by omega)]) (fun _ => Or.inr trivial) ?_
                · rw [show ((e + (n + 1) : Nat) : Int) = ((e + n : Nat) : Int) + 1 by omega] at this
                  exact this
                · have h2 := q4.new (o2 := wr c3 83 ((e + n : Nat) : Int) to 83) (g2 := wr (wr c3 83 ((e + n : Nat) : Int) to) bb to (c3 bb to + ct a st) bb) hti.1 hti.2 hxp hz0 wr_eq (fun s hs => by rw [wr_nk hs, wr_na abne.2.2.1]) wr_eq (fun t ht => wr_nk (by omega))
                  exact h2
        refine s_istore_8_5 (q := 45) dX3_countLayer_43 rfl rfl rfl ?_
        refine g_iconst (q := 46) dX3_countLayer_45 rfl ?_
        refine s_istore_8_6 (q := 48) dX3_countLayer_46 rfl rfl rfl ?_
        refine inner (brL Z 48).length 0 n c2 o7 (by omega) ?_ rfl
        have x83 : c2 83 = c 83 := m1.1 83 (by decide)
        have xa : c2 a = c a := m1.1 a (by rcases hab with ⟨rfl, -⟩ | ⟨rfl, -⟩ <;> decide)
        have xb : c2 bb = c bb := m1.1 bb (by rcases hab with ⟨-, rfl⟩ | ⟨-, rfl⟩ <;> decide)
        refine ⟨g1.tr (m1.1.mono (by decide)), m1.2, fun t ht => by rw [x83]; exact g3 t ht, by rw [x83, xb]; exact g4, ?_, ?_, by rw [xa]; exact g7, by rw [xa]; exact g8⟩
        · rw [x83, xb, g5]
          simp [lsum]
        · rw [x83, xb]
          simpa using g6
  refine Mt.of rfl (Nat.le_of_ble_eq_true rfl) ?_
  show G _ 0 [some (.inr (.inr 80)), some (.inl i), none, none, none, none, none, none] [] sh ct
  refine g_aload_n (q := 1) dX3_countLayer_0 rfl rfl ?_
  refine g_getA (q := 4) (kI := 5) fX3_22 (by first | assumption | exact S.at _ rfl) dX3_countLayer_1 rfl rfl (by first | assumption | exact L.at _ _ rfl | exact LK.at (by assumption) _ _ rfl | ((repeat first | rewrite [wr_na (by decide)] | rewrite [wr_nk (by decide)] | rewrite [wa_na (by decide)]); first | assumption | exact LK.at (by assumption) _ _ rfl) | exact rfl) ?_
  refine g_iload_n (q := 5) dX3_countLayer_4 rfl rfl ?_
  refine g_iconst (q := 6) dX3_countLayer_5 rfl ?_
  refine g_iadd (q := 7) dX3_countLayer_6 rfl ?_
  refine g_iaload (q := 8) (by first | assumption | exact S.at _ rfl) (by omega) (by omega) (by omega) dX3_countLayer_7 rfl ?_
  rw [he]
  refine s_istore_n_8_2 (q := 9) dX3_countLayer_8 rfl rfl rfl ?_
  refine g_aload_n (q := 10) dX3_countLayer_9 rfl rfl ?_
  refine g_getA (q := 13) (kI := 5) fX3_22 (by first | assumption | exact S.at _ rfl) dX3_countLayer_10 rfl rfl (by first | assumption | exact L.at _ _ rfl | exact LK.at (by assumption) _ _ rfl | ((repeat first | rewrite [wr_na (by decide)] | rewrite [wr_nk (by decide)] | rewrite [wa_na (by decide)]); first | assumption | exact LK.at (by assumption) _ _ rfl) | exact rfl) ?_
  refine g_iload_n (q := 14) dX3_countLayer_13 rfl rfl ?_
  refine g_iaload (q := 15) (by first | assumption | exact S.at _ rfl) (by omega) (by omega) (by omega) dX3_countLayer_14 rfl ?_
  rw [hp]
  refine s_istore_n_8_3 (q := 16) dX3_countLayer_15 rfl rfl rfl ?_
  have := outer m 0 0 ct none none none none (by omega) ⟨eqBut.rf, M, fun _ _ => rfl, ⟨fun t ht => by omega, fun t u ht => by omega, fun st s0 s1 => by
    rw [hz st s0 s1]
    exact ⟨Int.le_refl _, fun h => absurd rfl h, fun ⟨t, ht, _⟩ => by omega⟩⟩, rfl, by show (0 : Int) ≤ 48 * 0 + 0; omega, fun t ht => by omega, fun st s0 s1 _ => rfl⟩
  exact this
/-- what stands in Layers' rows between calls -/
def LZ (c : mbCt) : Prop := ((c 80 6 = 85 ∧ c 80 7 = 86) ∨ (c 80 6 = 86 ∧ c 80 7 = 85)) ∧ ∀ st : Int, 0 ≤ st → st < 700 → c 85 st = 0 ∧ c 86 st = 0
theorem pw48 : ∀ i : Nat, i ≤ 10 → 48 * (48 : Int) ^ i < 4611686018427387904 := by decide +kernel
/-- what stands ahead of the i-th layer -/
def CR (ct : mbCt) (b : Int) (β : Bk) (mk : Int → Int) (tone : Int) (sz : Nat) (tot : Int) (i : Nat) (c : mbCt) : Prop := ∃ (a bb : Int) (p m e : Nat), ((a = 85 ∧ bb = 86) ∨ (a = 86 ∧ bb = 85)) ∧ eqBut [68, 69, 72, 73, 75, 76, 80, 83, 84, 85, 86] ct c ∧ MV c b β mk ∧ c 80 6 = a ∧ c 80 7 = bb ∧ c 80 8 = 1 ∧ c 80 9 = -1 ∧ (∀ k, k ≠ 6 → k ≠ 7 → k ≠ 8 → k ≠ 9 → c 80 k = ct 80 k) ∧ c 84 i = p ∧ c 84 (i + 1) = e ∧ e = p + m ∧ e ≤ 700 * (i + 1) ∧ LYo (c 83) (c a) p m ∧ (∀ st : Int, 0 ≤ st → st < 700 → c bb st = 0) ∧ oS (c 83) (c a) (fun _ => 1) p m ≤ 48 ^ i ∧ oS (c 83) (c a) (cW β mk tone (ct 81) sz (sz - i)) p m = tot
theorem MV.x {ct c : mbCt} {b : Int} {β : Bk} {mk : Int → Int} (h : MV ct b β mk) {a k v : Int} (ha : 77 ≤ a) (hk : lkF a k = none) (e : c = wr ct a k v) : MV c b β mk := by
  subst e
  have hL : LK (wr ct a k v) := h.L.wr hk
  have qf : ∀ x : Int, x < 77 → wr ct a k v x = ct x := fun x hx => wr_other _ _ _ _ _ (by omega)
  have bb : b = 2 ∨ b = 7 := h.hb
  have e0 := qf b (by omega)
  have e2 := qf (b + 2) (by omega)
  have e3 := qf (b + 3) (by omega)
  have e4 := qf (b + 4) (by omega)
  have e69 := qf 69 (by omega)
  have e70 := qf 70 (by omega)
  have e71 := qf 71 (by omega)
  have e72 := qf 72 (by omega)
  have e73 := qf 73 (by omega)
  have e74 := qf 74 (by omega)
  refine ⟨⟨hL, h.hb, by rw [e70]; exact h.h0⟩, ⟨bkWf_eq e0 e4 h.wf, by rw [e69]; exact h.ask⟩, ⟨mvMin_eq e0 e4 e71 e72 h.mn, mvCl_eq e0 e4 e73 h.cl, ?_⟩, ⟨by rw [e70]; exact h.la.1, ?_⟩, by rw [e0]; exact h.rg, by rw [e71]; exact h.mr, by rw [bkOf_eq e0 e2 e3 e4]; exact h.bk, by rw [e71]; exact h.mks⟩
  · have t := h.tu
    unfold mvTurn at *
    rw [e0, e2, e3, e74]
    exact t
  · have t := h.la.2
    unfold noLast at *
    rw [e70, e0, e4]
    exact t
def CRes (ct : mbCt) (b : Int) (β : Bk) (mk : Int → Int) (c : mbCt) : Prop := eqBut [68, 69, 72, 73, 75, 76, 80, 83, 84, 85, 86] ct c ∧ MV c b β mk ∧ LZ c ∧ c 80 8 = 1 ∧ c 80 9 = -1 ∧ (∀ k, k ≠ 6 → k ≠ 7 → k ≠ 8 → k ≠ 9 → c 80 k = ct 80 k)
theorem c_countRows {b from' tone : Int} {β : Bk} {mk : Int → Int} {sz : Nat} (S : SH sh) (M : MV ct b β mk) (Z : LZ ct) (f0 : 0 ≤ from') (f1 : from' < 700) (t0 : -1 ≤ tone) (t1 : tone ≤ 10) (hsz : ct 80 2 = sz) (hs1 : sz ≤ 10) (hto : ∀ i : Nat, i < sz → toldOk β (ct 81 i)) : Mt YX3_countRows (d + 5) [.inr (.inr 80), .inl from', .inl tone] sh sh ct (pL fun r c => r = cW β mk tone (ct 81) sz sz from' ∧ CRes ct b β mk c) := by
  have L := M.L
  have s83 : shA sh 83 = some (20, 9100) := S.at _ rfl
  have s84 : shA sh 84 = some (20, 14) := S.at _ rfl
  generalize hP : (pL fun r c => r = cW β mk tone (ct 81) sz sz from' ∧ CRes ct b β mk c) = Po
  generalize htot : cW β mk tone (ct 81) sz sz from' = tot at hP
  -- the last layer
  have last : ∀ (k j : Nat) (c c0 : mbCt) (a bb : Int) (p m e : Nat), ((a = 85 ∧ bb = 86) ∨ (a = 86 ∧ bb = 85)) → j + k = m → eqBut [68, 69, 72, 73, 75, 76, 85, 86] c0 c → MV c b β mk → eqBut [68, 69, 72, 73, 75, 76, 80, 83, 84, 85, 86] ct c0 → c0 80 6 = a → c0 80 7 = bb → c0 80 8 = 1 → c0 80 9 = -1 → (∀ k, k ≠ 6 → k ≠ 7 → k ≠ 8 → k ≠ 9 → c0 80 k = ct 80 k) → c0 84 (sz + 1) = e → e = p + m → e ≤ 9100 → LYo (c0 83) (c0 a) p m → (∀ st : Int, 0 ≤ st → st < 700 → c bb st = 0) → oS (c0 83) (c0 a) (cW β mk tone (ct 81) sz 0) p m = tot → (∀ t : Nat, t < j → c a (c0 83 ((p + t : Nat) : Int)) = 0) → (∀ st : Int, 0 ≤ st → st < 700 → (∀ t : Nat, t < j → c0 83 ((p + t : Nat) : Int) ≠ st) → c a st = c0 a st) → G (mkK YX3_countRows (d + 5) sh sh Po) 92 [some (.inr (.inr 80)), some (.inl from'), some (.inl tone), some (.inr (.inl (oS (c0 83) (c0 a) (cW β mk tone (ct 81) sz 0) p j))), none, some (.inl ((p + j : Nat) : Int))] [] sh c := by
    intro k
    induction k with
    | zero =>
      intro j c c0 a bb p m e hab hj g1 g2 g3 g4 g5 g6 g7 g8 g9 g10 g11 Y g12 g13 g14 g15
      have hjm : j = m := by omega
      subst hjm
      have Lc := g2.L
      have e80 : c 80 = c0 80 := g1 80 (by decide)
      have e84 : c 84 = c0 84 := g1 84 (by decide)
      have l2 : c 80 2 = sz := by rw [e80, g8 2 (by decide) (by decide) (by decide) (by decide)]; exact hsz
      refine g_iload (q := 94) dX3_countRows_92 rfl rfl ?_
      refine g_aload_n (q := 95) dX3_countRows_94 rfl rfl ?_
      refine g_getA (q := 98) (kI := 5) fX3_22 (by first | assumption | exact S.at _ rfl) dX3_countRows_95 rfl rfl (by first | assumption | exact L.at _ _ rfl | exact LK.at (by assumption) _ _ rfl | ((repeat first | rewrite [wr_na (by decide)] | rewrite [wr_nk (by decide)] | rewrite [wa_na (by decide)]); first | assumption | exact LK.at (by assumption) _ _ rfl) | exact rfl) ?_
      refine g_aload_n (q := 99) dX3_countRows_98 rfl rfl ?_
      refine g_getI (q := 102) (kI := 2) fX3_40 (by first | assumption | exact S.at _ rfl) dX3_countRows_99 rfl rfl ?_
      rw [l2]
      refine g_iconst (q := 103) dX3_countRows_102 rfl ?_
      refine g_iadd (q := 104) dX3_countRows_103 rfl ?_
      refine g_iaload (q := 105) (by first | assumption | exact S.at _ rfl) (by omega) (by omega) (by omega) dX3_countRows_104 rfl ?_
      rw [e84, g9]
      refine g_icmp_ge (q := 108) (tg := 160) dX3_countRows_105 (by decide) rfl (fun c_105 => ?_) (fun c_105 => ?_)
      · refine g_lload_n (q := 161) dX3_countRows_160 rfl rfl ?_
        refine g_lreturn dX3_countRows_161 rfl ?_
        rw [← hP]
        refine ⟨_, rfl, g13, (g3.tr (g1.mono (by decide))), g2, ⟨?_, ?_⟩, by rw [e80]; exact g6, by rw [e80]; exact g7, fun k a1 a2 a3 a4 => by rw [e80]; exact g8 k a1 a2 a3 a4⟩
        · rw [e80, g4, g5]
          exact hab
        · have za : ∀ st : Int, 0 ≤ st → st < 700 → c a st = 0 := by
            intro st s0 s1
            by_cases h : ∃ t, t < j ∧ c0 83 ((p + t : Nat) : Int) = st
            · obtain ⟨t, t1, t2⟩ := h
              rw [← t2]
              exact g14 t t1
            · rw [g15 st s0 s1 (fun t ht he => h ⟨t, ht, he⟩)]
              exact Classical.not_not.mp (fun hh => h ((Y.2.2 st s0 s1).2.mp hh))
          intro st s0 s1
          rcases hab with ⟨rfl, rfl⟩ | ⟨rfl, rfl⟩
          · exact ⟨za st s0 s1, g12 st s0 s1⟩
          · exact ⟨g12 st s0 s1, za st s0 s1⟩
      · exact absurd c_105 (by unfold w32; omega)
    | succ k ih =>
      intro j c c0 a bb p m e hab hj g1 g2 g3 g4 g5 g6 g7 g8 g9 g10 g11 Y g12 g13 g14 g15
      have Lc := g2.L
      have e80 : c 80 = c0 80 := g1 80 (by decide)
      have e84 : c 84 = c0 84 := g1 84 (by decide)
      have e83 : c 83 = c0 83 := g1 83 (by decide)
      have l2 : c 80 2 = sz := by rw [e80, g8 2 (by decide) (by decide) (by decide) (by decide)]; exact hsz
      have l6 : c 80 6 = a := by rw [e80]; exact g4
      have sa : shA sh a = some (21, 700) := by rcases hab with ⟨h, -⟩ | ⟨h, -⟩ <;> rw [h] <;> exact S.at _ rfl
      have abne : a ≠ bb ∧ a ≠ 83 ∧ bb ≠ 83 ∧ a ≠ 80 ∧ bb ≠ 80 ∧ a ≠ 84 ∧ bb ≠ 84 ∧ 77 ≤ a := by rcases hab with ⟨rfl, rfl⟩ | ⟨rfl, rfl⟩ <;> decide
      have aA : a ∈ ([68, 69, 72, 73, 75, 76, 85, 86] : List Int) := by rcases hab with ⟨rfl, -⟩ | ⟨rfl, -⟩ <;> decide
      have aN : a ∉ ([68, 69, 72, 73, 75, 76] : List Int) := by rcases hab with ⟨rfl, -⟩ | ⟨rfl, -⟩ <;> decide
      have bN : bb ∉ ([68, 69, 72, 73, 75, 76] : List Int) := by rcases hab with ⟨-, rfl⟩ | ⟨-, rfl⟩ <;> decide
      have alk : ∀ k, lkF a k = none := by rcases hab with ⟨rfl, -⟩ | ⟨rfl, -⟩ <;> exact lkF_none rfl
      generalize hst : c0 83 ((p + j : Nat) : Int) = st
      have hs : 0 ≤ st ∧ st < 700 := by rw [← hst]; exact Y.1 j (by omega)
      have hcst : c 83 ((p + j : Nat) : Int) = st := by rw [e83]; exact hst
      have hx0 : c a st = c0 a st := g15 st hs.1 hs.2 (fun t ht he => by
        have := Y.2.1 t j (by omega) (by omega) (he.trans hst.symm)
        omega)
      have hSj : oS (c0 83) (c0 a) (cW β mk tone (ct 81) sz 0) p (j + 1) = oS (c0 83) (c0 a) (cW β mk tone (ct 81) sz 0) p j + c0 a st * b01 (enB β st tone = true) := by
        show oS (c0 83) (c0 a) (cW β mk tone (ct 81) sz 0) p j + c0 a (c0 83 ((p + j : Nat) : Int)) * b01 (enB β (c0 83 ((p + j : Nat) : Int)) tone = true) = _
        rw [hst]
      refine g_iload (q := 94) dX3_countRows_92 rfl rfl ?_
      refine g_aload_n (q := 95) dX3_countRows_94 rfl rfl ?_
      refine g_getA (q := 98) (kI := 5) fX3_22 (by first | assumption | exact S.at _ rfl) dX3_countRows_95 rfl rfl (by first | assumption | exact L.at _ _ rfl | exact LK.at (by assumption) _ _ rfl | ((repeat first | rewrite [wr_na (by decide)] | rewrite [wr_nk (by decide)] | rewrite [wa_na (by decide)]); first | assumption | exact LK.at (by assumption) _ _ rfl) | exact rfl) ?_
      refine g_aload_n (q := 99) dX3_countRows_98 rfl rfl ?_
      refine g_getI (q := 102) (kI := 2) fX3_40 (by first | assumption | exact S.at _ rfl) dX3_countRows_99 rfl rfl ?_
      rw [l2]
      refine g_iconst (q := 103) dX3_countRows_102 rfl ?_
      refine g_iadd (q := 104) dX3_countRows_103 rfl ?_
      refine g_iaload (q := 105) (by first | assumption | exact S.at _ rfl) (by omega) (by omega) (by omega) dX3_countRows_104 rfl ?_
      rw [e84, g9]
      refine g_icmp_ge (q := 108) (tg := 160) dX3_countRows_105 (by decide) rfl (fun c_105 => ?_) (fun c_105 => ?_)
      · exact absurd c_105 (by unfold w32; omega)
      · refine g_aload_n (q := 109) dX3_countRows_108 rfl rfl ?_
        refine g_getO (q := 112) (kI := 0) fX3_36 (by first | assumption | exact S.at _ rfl) dX3_countRows_109 rfl rfl (by first | assumption | exact L.at _ _ rfl | exact LK.at (by assumption) _ _ rfl | ((repeat first | rewrite [wr_na (by decide)] | rewrite [wr_nk (by decide)] | rewrite [wa_na (by decide)]); first | assumption | exact LK.at (by assumption) _ _ rfl) | exact rfl) ?_
        refine g_aload_n (q := 113) dX3_countRows_112 rfl rfl ?_
        refine g_getA (q := 116) (kI := 4) fX3_19 (by first | assumption | exact S.at _ rfl) dX3_countRows_113 rfl rfl (by first | assumption | exact L.at _ _ rfl | exact LK.at (by assumption) _ _ rfl | ((repeat first | rewrite [wr_na (by decide)] | rewrite [wr_nk (by decide)] | rewrite [wa_na (by decide)]); first | assumption | exact LK.at (by assumption) _ _ rfl) | exact rfl) ?_
        refine g_iload (q := 118) dX3_countRows_116 rfl rfl ?_
        refine g_iaload (q := 119) (by first | assumption | exact S.at _ rfl) (by omega) (by omega) (by omega) dX3_countRows_118 rfl ?_
        rw [hcst]
        refine g_iload_n (q := 120) dX3_countRows_119 rfl rfl ?_
        refine g_callV (q := 123) lX3_80 mX4_isEnd nX4_isEnd rfl (m_isEnd (d + 1) sh c S g2 hs.1 hs.2 t0 t1) (by first | assumption | exact S.at _ rfl) rfl rfl shLe.rf (rmOk.mk (by omega) (by first | exact shLe.rf | assumption)) (Nat.le_of_ble_eq_true rfl) dX3_countRows_120 rfl rfl (kI fun r c2 hp => ?_)
        obtain ⟨rfl, m1⟩ := hp
        have L2 := m1.2.L
        have f80 : c2 80 = c 80 := m1.1 80 (by decide)
        have f83 : c2 83 = c 83 := m1.1 83 (by decide)
        have fa : c2 a = c a := m1.1 a aN
        have k6 : c2 80 6 = a := by rw [f80]; exact l6
        have go : ∀ v : Int, v = oS (c0 83) (c0 a) (cW β mk tone (ct 81) sz 0) p (j + 1) → G (mkK YX3_countRows (d + 5) sh sh Po) 141 [some (.inr (.inr 80)), some (.inl from'), some (.inl tone), some (.inr (.inl v)), none, some (.inl ((p + j : Nat) : Int))] [] sh c2 := by
          intro v hv
          subst hv
          refine g_aload_n (q := 142) dX3_countRows_141 rfl rfl ?_
          refine g_getA (q := 145) (kI := 6) fX3_25 (by first | assumption | exact S.at _ rfl) dX3_countRows_142 rfl rfl (by first | assumption | exact L.at _ _ rfl | exact LK.at (by assumption) _ _ rfl | ((repeat first | rewrite [wr_na (by decide)] | rewrite [wr_nk (by decide)] | rewrite [wa_na (by decide)]); first | assumption | exact LK.at (by assumption) _ _ rfl) | exact rfl) ?_
          refine g_aload_n (q := 146) dX3_countRows_145 rfl rfl ?_
          refine g_getA (q := 149) (kI := 4) fX3_19 (by first | assumption | exact S.at _ rfl) dX3_countRows_146 rfl rfl (by first | assumption | exact L.at _ _ rfl | exact LK.at (by assumption) _ _ rfl | ((repeat first | rewrite [wr_na (by decide)] | rewrite [wr_nk (by decide)] | rewrite [wa_na (by decide)]); first | assumption | exact LK.at (by assumption) _ _ rfl) | exact rfl) ?_
          refine g_iload (q := 151) dX3_countRows_149 rfl rfl ?_
          refine g_iaload (q := 152) (by first | assumption | exact S.at _ rfl) (by omega) (by omega) (by omega) dX3_countRows_151 rfl ?_
          rw [f83, hcst]
          refine g_lconst0 (q := 153) dX3_countRows_152 rfl ?_
          refine g_lastore (q := 154) (by first | assumption | exact S.at _ rfl) (by omega) (by omega) (by omega) dX3_countRows_153 rfl ?_
          refine s_iinc_6_5 (q := 157) dX3_countRows_154 rfl rfl rfl ?_
          refine g_goto (q := 92) dX3_countRows_157 (by decide) ?_
          have := ih (j + 1) (wr c2 a st 0) c0 a bb p m e hab (by omega) ((g1.tr (m1.1.mono (by decide))).wr aA) (m1.2.x abne.2.2.2.2.2.2.2 (alk _) rfl) g3 g4 g5 g6 g7 g8 g9 g10 g11 Y ?_ g13 ?_ ?_
          · rw [show ((p + (j + 1) : Nat) : Int) = ((p + j : Nat) : Int) + 1 by omega] at this
            exact this
          · intro st' s0 s1
            rw [wr_na abne.1.symm, m1.1 bb bN]
            exact g12 st' s0 s1
          · intro t ht
            by_cases et : c0 83 ((p + t : Nat) : Int) = st
            · rw [et, wr_eq]
            · rw [wr_nk et, fa]
              refine g14 t ?_
              by_cases e2 : t = j
              · subst e2
                exact absurd hst et
              · omega
          · intro st' s0 s1 hno
            have h1 : st' ≠ st := fun h => hno j (by omega) (by rw [hst, h])
            rw [wr_nk h1, fa]
            exact g15 st' s0 s1 (fun t ht => hno t (by omega))
        refine g_if_eq (q := 126) (tg := 141) dX3_countRows_123 (by decide) rfl (fun c_123 => ?_) (fun c_123 => ?_)
        · refine go _ ?_
          have hf : ¬ enB β st tone = true := by
            intro h
            rw [← b01_t h] at c_123
            exact absurd c_123 (by decide)
          rw [hSj, ← b01_f hf]
          omega
        · have hf : enB β st tone = true := by
            by_cases h : enB β st tone = true
            · exact h
            · rw [← b01_f h] at c_123
              exact absurd rfl c_123
          refine g_lload_n (q := 127) dX3_countRows_126 rfl rfl ?_
          refine g_aload_n (q := 128) dX3_countRows_127 rfl rfl ?_
          refine g_getA (q := 131) (kI := 6) fX3_25 (by first | assumption | exact S.at _ rfl) dX3_countRows_128 rfl rfl (by first | assumption | exact L.at _ _ rfl | exact LK.at (by assumption) _ _ rfl | ((repeat first | rewrite [wr_na (by decide)] | rewrite [wr_nk (by decide)] | rewrite [wa_na (by decide)]); first | assumption | exact LK.at (by assumption) _ _ rfl) | exact rfl) ?_
          refine g_aload_n (q := 132) dX3_countRows_131 rfl rfl ?_
          refine g_getA (q := 135) (kI := 4) fX3_19 (by first | assumption | exact S.at _ rfl) dX3_countRows_132 rfl rfl (by first | assumption | exact L.at _ _ rfl | exact LK.at (by assumption) _ _ rfl | ((repeat first | rewrite [wr_na (by decide)] | rewrite [wr_nk (by decide)] | rewrite [wa_na (by decide)]); first | assumption | exact LK.at (by assumption) _ _ rfl) | exact rfl) ?_
          refine g_iload (q := 137) dX3_countRows_135 rfl rfl ?_
          refine g_iaload (q := 138) (by first | assumption | exact S.at _ rfl) (by omega) (by omega) (by omega) dX3_countRows_137 rfl ?_
          rw [f83, hcst]
          refine g_laload (q := 139) (by first | assumption | exact S.at _ rfl) (by omega) (by omega) (by omega) dX3_countRows_138 rfl ?_
          rw [fa, hx0]
          refine g_ladd (q := 140) dX3_countRows_139 rfl ?_
          refine s_lstore_n_6_3 (q := 141) dX3_countRows_140 rfl rfl rfl ?_
          refine go _ ?_
          rw [hSj, ← b01_t hf]
          omega
  have loop : ∀ (k i : Nat) (c : mbCt) (o4 : Option gV), i + k = sz → CR ct b β mk tone sz tot i c → G (mkK YX3_countRows (d + 5) sh sh Po) 40 [some (.inr (.inr 80)), some (.inl from'), some (.inl tone), some (.inl i), o4, none] [] sh c := by
    intro k
    induction k with
    | zero =>
      intro i c o4 hi ⟨a, bb, p, m, e, hab, g1, g2, g3, g4, g5, g6, g7, g8, g9, g10, g11, g12, g13, g14, g15⟩
      have his : i = sz := by omega
      subst his
      have Lc := g2.L
      have l2 : c 80 2 = i := by rw [g7 2 (by decide) (by decide) (by decide) (by decide)]; exact hsz
      refine g_iload_n (q := 41) dX3_countRows_40 rfl rfl ?_
      refine g_aload_n (q := 42) dX3_countRows_41 rfl rfl ?_
      refine g_getI (q := 45) (kI := 2) fX3_40 (by first | assumption | exact S.at _ rfl) dX3_countRows_42 rfl rfl ?_
      rw [l2]
      refine g_icmp_ge (q := 48) (tg := 79) dX3_countRows_45 (by decide) rfl (fun c_45 => ?_) (fun c_45 => ?_)
      · refine g_lconst0 (q := 80) dX3_countRows_79 rfl ?_
        refine s_lstore_n_6_3 (q := 81) dX3_countRows_80 rfl rfl rfl ?_
        refine g_aload_n (q := 82) dX3_countRows_81 rfl rfl ?_
        refine g_getA (q := 85) (kI := 5) fX3_22 (by first | assumption | exact S.at _ rfl) dX3_countRows_82 rfl rfl (by first | assumption | exact L.at _ _ rfl | exact LK.at (by assumption) _ _ rfl | ((repeat first | rewrite [wr_na (by decide)] | rewrite [wr_nk (by decide)] | rewrite [wa_na (by decide)]); first | assumption | exact LK.at (by assumption) _ _ rfl) | exact rfl) ?_
        refine g_aload_n (q := 86) dX3_countRows_85 rfl rfl ?_
        refine g_getI (q := 89) (kI := 2) fX3_40 (by first | assumption | exact S.at _ rfl) dX3_countRows_86 rfl rfl ?_
        rw [l2]
        refine g_iaload (q := 90) (by first | assumption | exact S.at _ rfl) (by omega) (by omega) (by omega) dX3_countRows_89 rfl ?_
        rw [g8]
        refine s_istore_6_5 (q := 92) dX3_countRows_90 rfl rfl rfl ?_
        rw [Nat.sub_self] at g15
        have := last m 0 c c a bb p m e hab (by omega) eqBut.rf g2 g1 g3 g4 g5 g6 g7 g9 g10 (by omega) g12 g13 g15 (fun t ht => by omega) (fun st _ _ _ => rfl)
        exact this
      · exact absurd c_45 (Int.lt_irrefl _)
    | succ k ih =>
      intro i c o4 hi ⟨a, bb, p, m, e, hab, g1, g2, g3, g4, g5, g6, g7, g8, g9, g10, g11, g12, g13, g14, g15⟩
      have Lc := g2.L
      have l2 : c 80 2 = sz := by rw [g7 2 (by decide) (by decide) (by decide) (by decide)]; exact hsz
      have hpw := pw48 i (by omega)
      have e81 : c 81 = ct 81 := g1 81 (by decide)
      have abne : a ≠ 80 ∧ bb ≠ 80 := by rcases hab with ⟨rfl, rfl⟩ | ⟨rfl, rfl⟩ <;> decide
      refine g_iload_n (q := 41) dX3_countRows_40 rfl rfl ?_
      refine g_aload_n (q := 42) dX3_countRows_41 rfl rfl ?_
      refine g_getI (q := 45) (kI := 2) fX3_40 (by first | assumption | exact S.at _ rfl) dX3_countRows_42 rfl rfl ?_
      rw [l2]
      refine g_icmp_ge (q := 48) (tg := 79) dX3_countRows_45 (by decide) rfl (fun c_45 => ?_) (fun c_45 => ?_)
      · exact absurd c_45 (by unfold w32; omega)
      · have hFF : ∀ st, cW β mk tone (ct 81) sz (sz - i) st = lsum (fun k => cW β mk tone (ct 81) sz (sz - (i + 1)) (nxB β st (k / 8 : Nat) (k % 8 : Nat))) (brL (alwN 1 β mk st (ct 81 i)) 48) := by
          intro st
          rw [show sz - i = (sz - (i + 1)) + 1 by omega]
          show lsum _ (brL (alwN 1 β mk st (ct 81 ((sz - (sz - (i + 1) + 1) : Nat) : Int))) 48) = _
          rw [show sz - (sz - (i + 1) + 1) = i by omega]
        refine g_aload_n (q := 49) dX3_countRows_48 rfl rfl ?_
        refine g_iload_n (q := 50) dX3_countRows_49 rfl rfl ?_
        refine g_callV (q := 53) lX3_76 mX3_countLayer nX3_countLayer rfl (c_countLayer d sh c S g2 (i := i) (by omega) (by omega) (by rw [e81]) (hto i (by omega)) g5 hab g3 g4 g8 g9 g10 (by omega) g12 g13 (by omega) (Fn := cW β mk tone (ct 81) sz (sz - (i + 1))) (F0 := cW β mk tone (ct 81) sz (sz - i)) hFF) (by first | assumption | exact S.at _ rfl) rfl rfl shLe.rf (rmOk.mk (by omega) (by first | exact shLe.rf | assumption)) (Nat.le_of_ble_eq_true rfl) dX3_countRows_50 rfl rfl (kN fun c2 hp => ?_)
        obtain ⟨n, q1, q2, q3, q4, q5, q6, q7, q8⟩ := hp
        have L2 := q2.L
        have f80 : c2 80 = c 80 := q1 80 (by decide)
        have k6 : c2 80 6 = a := by rw [f80]; exact g3
        have k7 : c2 80 7 = bb := by rw [f80]; exact g4
        refine g_aload_n (q := 54) dX3_countRows_53 rfl rfl ?_
        refine g_getA (q := 57) (kI := 6) fX3_25 (by first | assumption | exact S.at _ rfl) dX3_countRows_54 rfl rfl (by first | assumption | exact L.at _ _ rfl | exact LK.at (by assumption) _ _ rfl | ((repeat first | rewrite [wr_na (by decide)] | rewrite [wr_nk (by decide)] | rewrite [wa_na (by decide)]); first | assumption | exact LK.at (by assumption) _ _ rfl) | exact rfl) ?_
        refine s_astore_6_4 (q := 59) dX3_countRows_57 rfl rfl rfl ?_
        refine g_aload_n (q := 60) dX3_countRows_59 rfl rfl ?_
        refine g_aload_n (q := 61) dX3_countRows_60 rfl rfl ?_
        refine g_getA (q := 64) (kI := 7) fX3_29 (by first | assumption | exact S.at _ rfl) dX3_countRows_61 rfl rfl (by first | assumption | exact L.at _ _ rfl | exact LK.at (by assumption) _ _ rfl | ((repeat first | rewrite [wr_na (by decide)] | rewrite [wr_nk (by decide)] | rewrite [wa_na (by decide)]); first | assumption | exact LK.at (by assumption) _ _ rfl) | exact rfl) ?_
        refine g_putA (q := 67) (kI := 6) fX3_25 (by first | assumption | exact S.at _ rfl) dX3_countRows_64 rfl rfl ?_
        refine g_aload_n (q := 68) dX3_countRows_67 rfl rfl ?_
        refine g_aload (q := 70) dX3_countRows_68 rfl rfl ?_
        refine g_putA (q := 73) (kI := 7) fX3_29 (by first | assumption | exact S.at _ rfl) dX3_countRows_70 rfl rfl ?_
        refine s_iinc_6_3 (q := 76) dX3_countRows_73 rfl rfl rfl ?_
        refine g_goto (q := 40) dX3_countRows_76 (by decide) ?_
        refine ih (i + 1) _ _ (by omega) ⟨bb, a, e, n, e + n, hab.symm.imp (fun h => ⟨h.2, h.1⟩) (fun h => ⟨h.2, h.1⟩), ?_, (q2.x (a := 80) (k := 6) (by decide) rfl rfl).x (k := 7) (by decide) rfl rfl, by rw [wr_nk (by decide), wr_eq], wr_eq, ?_, ?_, ?_, ?_, ?_, rfl, ?_, ?_, ?_, ?_, ?_⟩
        · exact ((g1.tr (q1.mono (by decide))).wr (by decide)).wr (by decide)
        · rw [wr_nk (by decide), wr_nk (by decide), f80]
          exact g5
        · rw [wr_nk (by decide), wr_nk (by decide), f80]
          exact g6
        · intro k k6' k7' k8 k9
          rw [wr_nk k7', wr_nk k6', f80]
          exact g7 k k6' k7' k8 k9
        · rw [wr_na (by decide), wr_na (by decide), Int.natCast_succ, q4 _ (by omega)]
          exact g9
        · rw [wr_na (by decide), wr_na (by decide), show ((i + 1 : Nat) : Int) + 1 = i + 2 by omega]
          exact q3
        · have := q5.len
          omega
        · rw [wr_other _ _ _ _ _ (by decide), wr_other _ _ _ _ _ (by decide), wr_other _ _ _ _ _ abne.2, wr_other _ _ _ _ _ abne.2]
          exact q5
        · intro st s0 s1
          rw [wr_na abne.1, wr_na abne.1]
          exact q8 st s0 s1
        · rw [wr_other _ _ _ _ _ (by decide), wr_other _ _ _ _ _ (by decide), wr_other _ _ _ _ _ abne.2, wr_other _ _ _ _ _ abne.2, Int.pow_succ]
          omega
        · rw [wr_other _ _ _ _ _ (by decide), wr_other _ _ _ _ _ (by decide), wr_other _ _ _ _ _ abne.2, wr_other _ _ _ _ _ abne.2, q6]
          exact g15
  obtain ⟨z1, z2⟩ := Z
  refine Mt.of rfl (Nat.le_of_ble_eq_true rfl) ?_
  show G _ 0 [some (.inr (.inr 80)), some (.inl from'), some (.inl tone), none, none, none] [] sh ct
  have k6 : wr (wr ct 80 9 (-1)) 80 8 1 80 6 = ct 80 6 := by rw [wr_nk (by decide), wr_nk (by decide)]
  have sa : shA sh (ct 80 6) = some (21, 700) := by rcases z1 with ⟨h, -⟩ | ⟨h, -⟩ <;> rw [h] <;> exact S.at _ rfl
  have abne : ct 80 6 ≠ 80 ∧ ct 80 7 ≠ 80 ∧ ct 80 6 ≠ ct 80 7 ∧ ct 80 6 ≠ 83 ∧ ct 80 6 ≠ 84 ∧ ct 80 7 ≠ 83 ∧ ct 80 7 ≠ 84 ∧ 77 ≤ ct 80 6 := by rcases z1 with ⟨h1, h2⟩ | ⟨h1, h2⟩ <;> rw [h1, h2] <;> decide
  have aA : ct 80 6 ∈ ([68, 69, 72, 73, 75, 76, 80, 83, 84, 85, 86] : List Int) := by rcases z1 with ⟨h1, h2⟩ | ⟨h1, h2⟩ <;> rw [h1] <;> decide
  have alk : ∀ k, lkF (ct 80 6) k = none := by rcases z1 with ⟨h1, h2⟩ | ⟨h1, h2⟩ <;> rw [h1] <;> exact lkF_none rfl
  have zz : ∀ st : Int, 0 ≤ st → st < 700 → ct (ct 80 6) st = 0 ∧ ct (ct 80 7) st = 0 := by
    intro st s0 s1
    rcases z1 with ⟨h1, h2⟩ | ⟨h1, h2⟩ <;> rw [h1, h2]
    · exact z2 st s0 s1
    · exact (z2 st s0 s1).symm
  refine g_aload_n (q := 1) dX3_countRows_0 rfl rfl ?_
  refine g_iconst (q := 2) dX3_countRows_1 rfl ?_
  refine g_putI (q := 5) (kI := 9) fX3_32 (by first | assumption | exact S.at _ rfl) dX3_countRows_2 rfl rfl ?_
  refine g_aload_n (q := 6) dX3_countRows_5 rfl rfl ?_
  refine g_iconst (q := 7) dX3_countRows_6 rfl ?_
  refine g_putZ (q := 10) (kI := 8) fX3_68 (by first | assumption | exact S.at _ rfl) (by first | exact Or.inl rfl | exact Or.inr rfl | assumption) dX3_countRows_7 rfl rfl ?_
  refine g_aload_n (q := 11) dX3_countRows_10 rfl rfl ?_
  refine g_getA (q := 14) (kI := 6) fX3_25 (by first | assumption | exact S.at _ rfl) dX3_countRows_11 rfl rfl (by first | assumption | exact L.at _ _ rfl | exact LK.at (by assumption) _ _ rfl | ((repeat first | rewrite [wr_na (by decide)] | rewrite [wr_nk (by decide)] | rewrite [wa_na (by decide)]); first | assumption | exact LK.at (by assumption) _ _ rfl) | exact rfl) ?_
  refine g_iload_n (q := 15) dX3_countRows_14 rfl rfl ?_
  refine g_lconst1 (q := 16) dX3_countRows_15 rfl ?_
  refine g_lastore (q := 17) (by first | assumption | exact S.at _ rfl) (by omega) (by omega) (by omega) dX3_countRows_16 rfl ?_
  generalize hc1 : wr (wr (wr ct 80 9 (-1)) 80 8 1) (ct 80 6) from' 1 = c1
  have M1 : MV c1 b β mk := by
    rw [← hc1]
    exact ((M.x (a := 80) (k := 9) (by decide) rfl rfl).x (a := 80) (k := 8) (by decide) rfl rfl).x abne.2.2.2.2.2.2.2 (alk _) rfl
  have L1 := M1.L
  refine g_aload_n (q := 18) dX3_countRows_17 rfl rfl ?_
  refine g_getA (q := 21) (kI := 4) fX3_19 (by first | assumption | exact S.at _ rfl) dX3_countRows_18 rfl rfl (by first | assumption | exact L.at _ _ rfl | exact LK.at (by assumption) _ _ rfl | ((repeat first | rewrite [wr_na (by decide)] | rewrite [wr_nk (by decide)] | rewrite [wa_na (by decide)]); first | assumption | exact LK.at (by assumption) _ _ rfl) | exact rfl) ?_
  refine g_iconst (q := 22) dX3_countRows_21 rfl ?_
  refine g_iload_n (q := 23) dX3_countRows_22 rfl rfl ?_
  refine g_iastore (q := 24) (by first | assumption | exact S.at _ rfl) (by omega) (by omega) (by omega) dX3_countRows_23 rfl ?_
  refine g_aload_n (q := 25) dX3_countRows_24 rfl rfl ?_
  refine g_getA (q := 28) (kI := 5) fX3_22 (by first | assumption | exact S.at _ rfl) dX3_countRows_25 rfl rfl (by first | assumption | exact L.at _ _ rfl | exact LK.at (by assumption) _ _ rfl | ((repeat first | rewrite [wr_na (by decide)] | rewrite [wr_nk (by decide)] | rewrite [wa_na (by decide)]); first | assumption | exact LK.at (by assumption) _ _ rfl) | exact rfl) ?_
  refine g_iconst (q := 29) dX3_countRows_28 rfl ?_
  refine g_iconst (q := 30) dX3_countRows_29 rfl ?_
  refine g_iastore (q := 31) (by first | assumption | exact S.at _ rfl) (by omega) (by omega) (by omega) dX3_countRows_30 rfl ?_
  refine g_aload_n (q := 32) dX3_countRows_31 rfl rfl ?_
  refine g_getA (q := 35) (kI := 5) fX3_22 (by first | assumption | exact S.at _ rfl) dX3_countRows_32 rfl rfl (by first | assumption | exact L.at _ _ rfl | exact LK.at (by assumption) _ _ rfl | ((repeat first | rewrite [wr_na (by decide)] | rewrite [wr_nk (by decide)] | rewrite [wa_na (by decide)]); first | assumption | exact LK.at (by assumption) _ _ rfl) | exact rfl) ?_
  refine g_iconst (q := 36) dX3_countRows_35 rfl ?_
  refine g_iconst (q := 37) dX3_countRows_36 rfl ?_
  refine g_iastore (q := 38) (by first | assumption | exact S.at _ rfl) (by omega) (by omega) (by omega) dX3_countRows_37 rfl ?_
  refine g_iconst (q := 39) dX3_countRows_38 rfl ?_
  refine s_istore_n_6_3 (q := 40) dX3_countRows_39 rfl rfl rfl ?_
  generalize hc2 : wr (wr (wr c1 83 0 from') 84 0 0) 84 1 1 = c2
  have M2 : MV c2 b β mk := by
    rw [← hc2]
    exact ((M1.x (a := 83) (by decide) (lkF_none rfl _) rfl).x (a := 84) (by decide) (lkF_none rfl _) rfl).x (a := 84) (by decide) (lkF_none rfl _) rfl
  have x80 : ∀ k, k ≠ 8 → k ≠ 9 → c2 80 k = ct 80 k := fun k k8 k9 => by rw [← hc2, wr_na (by decide), wr_na (by decide), wr_na (by decide), ← hc1, wr_na abne.1.symm, wr_nk k8, wr_nk k9]
  have x83 : c2 83 0 = from' := by rw [← hc2, wr_na (by decide), wr_na (by decide), wr_eq]
  have xa : ∀ st, c2 (ct 80 6) st = if st = from' then 1 else ct (ct 80 6) st := by
    intro st
    rw [← hc2, wr_na abne.2.2.2.2.1, wr_na abne.2.2.2.2.1, wr_na abne.2.2.2.1, ← hc1]
    by_cases e : st = from'
    · rw [e, wr_eq, if_pos rfl]
    · rw [wr_nk e, wr_na abne.1, wr_na abne.1, if_neg e]
  refine loop sz 0 c2 none (by omega) ⟨ct 80 6, ct 80 7, 0, 1, 1, z1, ?_, M2, x80 6 (by decide) (by decide), x80 7 (by decide) (by decide), ?_, ?_, fun k k6 k7 k8 k9 => x80 k k8 k9, ?_, ?_, rfl, by omega, ⟨?_, ?_, ?_⟩, ?_, ?_, ?_⟩
  · rw [← hc2, ← hc1]
    exact (((((eqBut.rf.wr (by decide)).wr (by decide)).wr aA).wr (by decide)).wr (by decide)).wr (by decide)
  · rw [← hc2, wr_na (by decide), wr_na (by decide), wr_na (by decide), ← hc1, wr_na abne.1.symm, wr_eq]
  · rw [← hc2, wr_na (by decide), wr_na (by decide), wr_na (by decide), ← hc1, wr_na abne.1.symm, wr_nk (by decide), wr_eq]
  · rw [← hc2, wr_nk (by decide)]
    exact wr_eq
  · rw [← hc2]
    exact wr_eq
  · intro t ht
    have : t = 0 := by omega
    subst this
    show 0 ≤ c2 83 0 ∧ c2 83 0 < 700
    rw [x83]
    exact ⟨f0, f1⟩
  · intro t u ht hu _
    omega
  · intro st s0 s1
    rw [xa]
    by_cases e : st = from'
    · rw [if_pos e]
      exact ⟨by omega, fun _ => ⟨0, by omega, by show c2 83 0 = st; rw [x83, e]⟩, fun _ => by omega⟩
    · rw [if_neg e, (zz st s0 s1).1]
      refine ⟨by omega, fun h => absurd rfl h, fun ⟨t, ht, h⟩ => ?_⟩
      have : t = 0 := by omega
      subst this
      have h : c2 83 0 = st := h
      rw [x83] at h
      exact absurd h.symm e
  · intro st s0 s1
    rw [← hc2, wr_na abne.2.2.2.2.2.2.1, wr_na abne.2.2.2.2.2.2.1, wr_na abne.2.2.2.2.2.1, ← hc1, wr_na abne.2.2.1.symm, wr_na abne.2.1, wr_na abne.2.1]
    exact (zz st s0 s1).2
  · show (0 : Int) + c2 (ct 80 6) (c2 83 0) * 1 ≤ 48 ^ 0
    rw [x83, xa, if_pos rfl]
    decide
  · show (0 : Int) + c2 (ct 80 6) (c2 83 0) * cW β mk tone (ct 81) sz (sz - 0) (c2 83 0) = tot
    rw [x83, xa, if_pos rfl, ← htot, Nat.sub_zero]
    omega
end
