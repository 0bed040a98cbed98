/-! Layers: what can be reached, what is weighed -/
def cost (s t : Int) (k : Nat) : Int := if s = 1 ∨ t = mnt k then 0 else 1
theorem cost_in (s t : Int) (k : Nat) : 0 ≤ cost s t k ∧ cost s t k ≤ 1 := by unfold cost; split <;> omega
def lmin (f : Nat → Int) (l : List Nat) : Int := l.foldl (fun m k => if f k < m then f k else m) 100
theorem lmin_snoc (f : Nat → Int) (l : List Nat) (a : Nat) : lmin f (l ++ [a]) = if f a < lmin f l then f a else lmin f l := by
  unfold lmin
  rw [List.foldl_append]
  rfl
theorem lmin_ind {P : List Nat → Prop} (h0 : P []) (h1 : ∀ l a, P l → P (l ++ [a])) (l : List Nat) : P l := by
  have : ∀ n, ∀ l : List Nat, l.length = n → P l := by
    intro n
    induction n with
    | zero =>
      intro l hl
      rw [List.length_eq_zero_iff.mp hl]
      exact h0
    | succ n ih =>
      intro l hl
      rcases List.eq_nil_or_concat l with e | ⟨l2, a, e⟩
      · rw [e]
        exact h0
      · rw [e, List.concat_eq_append] at hl ⊢
        refine h1 l2 a (ih l2 ?_)
        simpa using hl
  exact this _ l rfl
theorem lmin_le (f : Nat → Int) (l : List Nat) : lmin f l ≤ 100 ∧ (∀ k ∈ l, lmin f l ≤ f k) ∧ (lmin f l = 100 ∨ ∃ k ∈ l, f k = lmin f l) := by
  induction l using lmin_ind with
  | h0 => exact ⟨Int.le_refl _, fun k hk => (by cases hk), Or.inl rfl⟩
  | h1 l a ih =>
    obtain ⟨i1, i2, i3⟩ := ih
    rw [lmin_snoc]
    by_cases h : f a < lmin f l
    · rw [if_pos h]
      refine ⟨by omega, fun k hk => ?_, Or.inr ⟨a, by simp, rfl⟩⟩
      rcases List.mem_append.mp hk with h1 | h1
      · have := i2 k h1
        omega
      · rw [List.mem_singleton.mp h1]
        exact Int.le_refl _
    · rw [if_neg h]
      refine ⟨i1, fun k hk => ?_, ?_⟩
      · rcases List.mem_append.mp hk with h1 | h1
        · exact i2 k h1
        · rw [List.mem_singleton.mp h1]
          omega
      · rcases i3 with e | ⟨k, k1, k2⟩
        · exact Or.inl e
        · exact Or.inr ⟨k, by simp [k1], k2⟩
theorem lmin_nn {f : Nat → Int} {l : List Nat} (h : ∀ k ∈ l, 0 ≤ f k) : 0 ≤ lmin f l := by
  rcases (lmin_le f l).2.2 with e | ⟨k, k1, k2⟩
  · omega
  · rw [← k2]
    exact h k k1
theorem lmin_cong {f g : Nat → Int} {l : List Nat} : (∀ k ∈ l, f k = g k) → lmin f l = lmin g l := by
  induction l using lmin_ind with
  | h0 => intro _; rfl
  | h1 l a ih =>
    intro h
    rw [lmin_snoc, lmin_snoc, ih (fun k hk => h k (by simp [hk])), h a (by simp)]
/-- how many minutes are others than told, at fewest, with so many places left; 100: never -/
def eW (s : Int) (β : Bk) (mk : Int → Int) (tone : Int) (tl : Int → Int) (n : Nat) : Nat → Int → Int
  | 0, st => if enB β st tone = true then 0 else 100
  | r + 1, st => lmin (fun k => eW s β mk tone tl n r (nxB β st (k / 8 : Nat) (k % 8 : Nat)) + cost s (tl ((n - (r + 1) : Nat) : Int)) k) (brL (alwN s β mk st (tl ((n - (r + 1) : Nat) : Int))) 48)
theorem eW_in {s : Int} {β : Bk} {mk : Int → Int} {tone : Int} {tl : Int → Int} {n : Nat} : ∀ r st, 0 ≤ eW s β mk tone tl n r st ∧ eW s β mk tone tl n r st ≤ 100
  | 0, st => by
    unfold eW
    split <;> omega
  | r + 1, st => by
    unfold eW
    refine ⟨lmin_nn fun k _ => ?_, (lmin_le _ _).1⟩
    have := (eW_in (s := s) (β := β) (mk := mk) (tone := tone) (tl := tl) (n := n) r (nxB β st (k / 8 : Nat) (k % 8 : Nat))).1
    have := (cost_in s (tl ((n - (r + 1) : Nat) : Int)) k).1
    omega
/-- the states behind so many minutes -/
def Rch (s : Int) (β : Bk) (mk : Int → Int) (tl : Int → Int) (start : Int) : Nat → Int → Prop
  | 0, st => st = start
  | i + 1, st => ∃ x k, Rch s β mk tl start i x ∧ k ∈ brL (alwN s β mk x (tl i)) 48 ∧ st = nxB β x (k / 8 : Nat) (k % 8 : Nat)
theorem brL_nx {Z k : Nat} (h : k ∈ brL Z 48) (β : Bk) (st : Int) : 0 ≤ nxB β st (k / 8 : Nat) (k % 8 : Nat) ∧ nxB β st (k / 8 : Nat) (k % 8 : Nat) < 700 := by
  have := (brL_mem.mp h).1
  exact nxB_in (by omega) (by omega)
/-- a row of others: what was reached so far of the layer i + 1 -/
def RLI (ct : mbCt) (b : Int) (β : Bk) (mk : Int → Int) (i : Int) (e : Nat) (D : Int → Prop) (n : Nat) (c : mbCt) : Prop := eqBut [68, 69, 72, 73, 75, 76, 82, 83] ct c ∧ MV c b β mk ∧ (∀ t : Nat, t < e → c 83 t = ct 83 t) ∧ (∀ x : Int, (x < 700 * (i + 1) ∨ 700 * (i + 2) ≤ x) → c 82 x = ct 82 x) ∧ (∀ st : Int, 0 ≤ st → st < 700 → c 82 ((i + 1) * 700 + st) = -1 ∨ c 82 ((i + 1) * 700 + st) = 100) ∧ LYo (c 83) (fun st => c 82 ((i + 1) * 700 + st) + 1) e n ∧ (∀ t : Nat, t < n → D (c 83 ((e + t : Nat) : Int))) ∧ (∀ st, D st → ∃ t : Nat, t < n ∧ c 83 ((e + t : Nat) : Int) = st)
def RLP (ct : mbCt) (b : Int) (β : Bk) (mk : Int → Int) (i : Int) (e : Nat) (D : Int → Prop) (c : mbCt) : Prop := ∃ n : Nat, eqBut [68, 69, 72, 73, 75, 76, 82, 83, 84] ct c ∧ MV c b β mk ∧ (∀ t : Nat, t < e → c 83 t = ct 83 t) ∧ (∀ x : Int, (x < 700 * (i + 1) ∨ 700 * (i + 2) ≤ x) → c 82 x = ct 82 x) ∧ n ≤ 700 ∧ c 84 (i + 2) = ((e + n : Nat) : Int) ∧ (∀ k, k ≠ i + 2 → c 84 k = ct 84 k) ∧ (∀ t : Nat, t < n → 0 ≤ c 83 ((e + t : Nat) : Int) ∧ c 83 ((e + t : Nat) : Int) < 700 ∧ D (c 83 ((e + t : Nat) : Int))) ∧ (∀ st, D st → ∃ t : Nat, t < n ∧ c 83 ((e + t : Nat) : Int) = st) ∧ (∀ st : Int, 0 ≤ st → st < 700 → (D st → c 82 ((i + 1) * 700 + st) = 100) ∧ (¬ D st → c 82 ((i + 1) * 700 + st) = -1))
section
variable (d : Nat) (sh : mbSh) (ct : mbCt)
theorem RLI.ext {b : Int} {β : Bk} {mk : Int → Int} {i : Int} {e n : Nat} {D D' : Int → Prop} {c : mbCt} {ct : mbCt} (h : RLI ct b β mk i e D n c) (hd : ∀ st, D st ↔ D' st) : RLI ct b β mk i e D' n c := by
  obtain ⟨a1, a2, a3, a4, a5, a6, a7, a8⟩ := h
  exact ⟨a1, a2, a3, a4, a5, a6, fun t ht => (hd _).mp (a7 t ht), fun st hs => a8 st ((hd _).mpr hs)⟩
theorem c_reachLayer {i b t : Int} {β : Bk} {mk : Int → Int} {p m e : Nat} (S : SH sh) (M : MV ct b β mk) (i0 : 0 ≤ i) (i1 : i < 12) (ht : ct 81 i = t) (ho : toldOk β t) (h8 : ct 80 8 = 0 ∨ ct 80 8 = 1) (hp : ct 84 i = p) (he : ct 84 (i + 1) = e) (hem : e = p + m) (he2 : (e : Int) ≤ 700 * (i + 1)) (hl : ∀ j : Nat, j < m → 0 ≤ ct 83 ((p + j : Nat) : Int) ∧ ct 83 ((p + j : Nat) : Int) < 700) (hr : ∀ st : Int, 0 ≤ st → st < 700 → ct 82 ((i + 1) * 700 + st) = -1) : Mt YX3_reachLayer (d + 4) [.inr (.inr 80), .inl i] sh sh ct (pN fun c => RLP ct b β mk i e (fun st => ∃ (j k : Nat), j < m ∧ k ∈ brL (alwN (ct 80 8) β mk (ct 83 ((p + j : Nat) : Int)) t) 48 ∧ st = nxB β (ct 83 ((p + j : Nat) : Int)) (k / 8 : Nat) (k % 8 : Nat)) c) := by
  have L := M.L
  have s82 : shA sh 82 = some (22, 9100) := S.at _ rfl
  have s83 : shA sh 83 = some (20, 9100) := S.at _ rfl
  have s84 : shA sh 84 = some (20, 14) := S.at _ rfl
  have s76 : shA sh 76 = some (20, 48) := S.at _ rfl
  generalize hs8 : ct 80 8 = s
  rw [hs8] at h8
  have nx0 : ∀ {Z k : Nat}, k ∈ brL Z 48 → ∀ st : Int, 0 ≤ nxB β st (k / 8 : Nat) (k % 8 : Nat) ∧ nxB β st (k / 8 : Nat) (k % 8 : Nat) < 700 := fun hk st => brL_nx hk β st
  generalize hP : (pN fun c => RLP ct b β mk i e (fun st => ∃ (j k : Nat), j < m ∧ k ∈ brL (alwN s β mk (ct 83 ((p + j : Nat) : Int)) t) 48 ∧ st = nxB β (ct 83 ((p + j : Nat) : Int)) (k / 8 : Nat) (k % 8 : Nat)) c) = Po
  have outer : ∀ (k j n : Nat) (c : mbCt) (o4 o5 o6 : Option gV), j + k = m → RLI ct b β mk i e (fun st => ∃ (j' k : Nat), j' < j ∧ k ∈ brL (alwN s β mk (ct 83 ((p + j' : Nat) : Int)) t) 48 ∧ st = nxB β (ct 83 ((p + j' : Nat) : Int)) (k / 8 : Nat) (k % 8 : Nat)) n c → G (mkK YX3_reachLayer (d + 4) sh sh Po) 16 [some (.inr (.inr 80)), some (.inl i), some (.inl ((e + n : Nat) : Int)), some (.inl ((p + j : Nat) : Int)), o4, o5, o6] [] sh c := by
    intro k
    induction k with
    | zero =>
      intro j n c o4 o5 o6 hj ⟨g1, g2, g3, g4, g5, g6, g7, g8⟩
      have hjm : j = m := by omega
      subst hjm
      have Lc := g2.L
      have e84 : c 84 = ct 84 := g1 84 (by decide)
      have hln := g6.len
      refine g_iload_n (q := 17) dX3_reachLayer_16 rfl rfl ?_
      refine g_aload_n (q := 18) dX3_reachLayer_17 rfl rfl ?_
      refine g_getA (q := 21) (kI := 5) fX3_22 (by first | assumption | exact S.at _ rfl) dX3_reachLayer_18 rfl rfl (by first | assumption | exact L.at _ _ rfl | exact LK.at (by assumption) _ _ rfl | ((repeat first | rewrite [wr_na (by decide)] | rewrite [wr_nk (by decide)] | rewrite [wa_na (by decide)]); first | assumption | exact LK.at (by assumption) _ _ rfl) | exact rfl) ?_
      refine g_iload_n (q := 22) dX3_reachLayer_21 rfl rfl ?_
      refine g_iconst (q := 23) dX3_reachLayer_22 rfl ?_
      refine g_iadd (q := 24) dX3_reachLayer_23 rfl ?_
      refine g_iaload (q := 25) (by first | assumption | exact S.at _ rfl) (by omega) (by omega) (by omega) dX3_reachLayer_24 rfl ?_
      rw [e84, he]
      refine g_icmp_ge (q := 28) (tg := 122) dX3_reachLayer_25 (by decide) rfl (fun c_25 => ?_) (fun c_25 => ?_)
      · refine g_aload_n (q := 123) dX3_reachLayer_122 rfl rfl ?_
        refine g_getA (q := 126) (kI := 5) fX3_22 (by first | assumption | exact S.at _ rfl) dX3_reachLayer_123 rfl rfl (by first | assumption | exact L.at _ _ rfl | exact LK.at (by assumption) _ _ rfl | ((repeat first | rewrite [wr_na (by decide)] | rewrite [wr_nk (by decide)] | rewrite [wa_na (by decide)]); first | assumption | exact LK.at (by assumption) _ _ rfl) | exact rfl) ?_
        refine g_iload_n (q := 127) dX3_reachLayer_126 rfl rfl ?_
        refine g_iconst (q := 128) dX3_reachLayer_127 rfl ?_
        refine g_iadd (q := 129) dX3_reachLayer_128 rfl ?_
        refine g_iload_n (q := 130) dX3_reachLayer_129 rfl rfl ?_
        refine g_iastore (q := 131) (by first | assumption | exact S.at _ rfl) (by omega) (by omega) (by omega) dX3_reachLayer_130 rfl ?_
        refine g_return dX3_reachLayer_131 rfl ?_
        rw [← hP]
        have x83 : wr c 84 (i + 2) ((e + n : Nat) : Int) 83 = c 83 := wr_other _ _ _ _ _ (by decide)
        have x82 : wr c 84 (i + 2) ((e + n : Nat) : Int) 82 = c 82 := wr_other _ _ _ _ _ (by decide)
        refine ⟨rfl, n, (g1.mono (by decide)).wr (by decide), g2.x (by decide) (lkF_none rfl _) rfl, ?_, ?_, hln, by rw [wr_eq], fun k hk => by rw [wr_nk hk, e84], ?_, ?_, ?_⟩
        · rw [x83]
          exact g3
        · rw [x82]
          exact g4
        · rw [x83]
          exact fun t ht => ⟨(g6.1 t ht).1, (g6.1 t ht).2, g7 t ht⟩
        · rw [x83]
          exact g8
        · rw [x82]
          intro st s0 s1
          have h6 := (g6.2.2 st s0 s1).2
          refine ⟨fun hD => ?_, fun hD => ?_⟩
          · obtain ⟨t, t1, t2⟩ := g8 st hD
            have hh : c 82 ((i + 1) * 700 + st) + 1 ≠ 0 := h6.mpr ⟨t, t1, t2⟩
            have := g5 st s0 s1
            omega
          · have hn : ¬ (c 82 ((i + 1) * 700 + st) + 1 ≠ 0) := by
              intro hh
              obtain ⟨t, t1, t2⟩ := h6.mp hh
              have := g7 t t1
              rw [t2] at this
              exact hD this
            omega
      · exact absurd c_25 (by unfold w32; omega)
    | succ k ih =>
      intro j n c o4 o5 o6 hj hRL
      obtain ⟨g1, g2, g3, g4, g5, g6, g7, g8⟩ := id hRL
      have Lc := g2.L
      have e84 : c 84 = ct 84 := g1 84 (by decide)
      have e80 : c 80 = ct 80 := g1 80 (by decide)
      have e81 : c 81 = ct 81 := g1 81 (by decide)
      have hln := g6.len
      have hs := hl j (by omega)
      generalize hst : ct 83 ((p + j : Nat) : Int) = st at hs
      have hcst : c 83 ((p + j : Nat) : Int) = st := by rw [g3 _ (by omega)]; exact hst
      refine g_iload_n (q := 17) dX3_reachLayer_16 rfl rfl ?_
      refine g_aload_n (q := 18) dX3_reachLayer_17 rfl rfl ?_
      refine g_getA (q := 21) (kI := 5) fX3_22 (by first | assumption | exact S.at _ rfl) dX3_reachLayer_18 rfl rfl (by first | assumption | exact L.at _ _ rfl | exact LK.at (by assumption) _ _ rfl | ((repeat first | rewrite [wr_na (by decide)] | rewrite [wr_nk (by decide)] | rewrite [wa_na (by decide)]); first | assumption | exact LK.at (by assumption) _ _ rfl) | exact rfl) ?_
      refine g_iload_n (q := 22) dX3_reachLayer_21 rfl rfl ?_
      refine g_iconst (q := 23) dX3_reachLayer_22 rfl ?_
      refine g_iadd (q := 24) dX3_reachLayer_23 rfl ?_
      refine g_iaload (q := 25) (by first | assumption | exact S.at _ rfl) (by omega) (by omega) (by omega) dX3_reachLayer_24 rfl ?_
      rw [e84, he]
      refine g_icmp_ge (q := 28) (tg := 122) dX3_reachLayer_25 (by decide) rfl (fun c_25 => ?_) (fun c_25 => ?_)
      · exact absurd c_25 (by unfold w32; omega)
      · refine g_aload_n (q := 29) dX3_reachLayer_28 rfl rfl ?_
        refine g_iload_n (q := 30) dX3_reachLayer_29 rfl rfl ?_
        refine g_aload_n (q := 31) dX3_reachLayer_30 rfl rfl ?_
        refine g_getA (q := 34) (kI := 4) fX3_19 (by first | assumption | exact S.at _ rfl) dX3_reachLayer_31 rfl rfl (by first | assumption | exact L.at _ _ rfl | exact LK.at (by assumption) _ _ rfl | ((repeat first | rewrite [wr_na (by decide)] | rewrite [wr_nk (by decide)] | rewrite [wa_na (by decide)]); first | assumption | exact LK.at (by assumption) _ _ rfl) | exact rfl) ?_
        refine g_iload_n (q := 35) dX3_reachLayer_34 rfl rfl ?_
        refine g_iaload (q := 36) (by first | assumption | exact S.at _ rfl) (by omega) (by omega) (by omega) dX3_reachLayer_35 rfl ?_
        rw [hcst]
        refine g_callV (q := 39) lX3_83 mX3_branchFor nX3_branchFor rfl (c_branchFor d sh c S g2 i0 i1 (by rw [e81]; exact ht) ho hs.1 hs.2 (by rw [e80, hs8]; exact h8)) (by first | assumption | exact S.at _ rfl) rfl rfl shLe.rf (rmOk.mk (by omega) (by first | exact shLe.rf | assumption)) (Nat.le_of_ble_eq_true rfl) dX3_reachLayer_36 rfl rfl (kI fun r c2 hp => ?_)
        obtain ⟨rfl, r75, r76, m1⟩ := hp
        rw [e80, hs8] at r75 r76 ⊢
        generalize hZ : alwN s β mk st t = Z at r75 r76
        have hbl := brL_len Z 48
        have inner : ∀ (k2 u n : Nat) (c3 : mbCt) (o6 : Option gV), u + k2 = (brL Z 48).length → RLI ct b β mk i e (fun x => (∃ (j' k : Nat), j' < j ∧ k ∈ brL (alwN s β mk (ct 83 ((p + j' : Nat) : Int)) t) 48 ∧ x = nxB β (ct 83 ((p + j' : Nat) : Int)) (k / 8 : Nat) (k % 8 : Nat)) ∨ ∃ k ∈ (brL Z 48).take u, x = nxB β st (k / 8 : Nat) (k % 8 : Nat)) n c3 → c3 76 = c2 76 → G (mkK YX3_reachLayer (d + 4) sh sh Po) 44 [some (.inr (.inr 80)), some (.inl i), some (.inl ((e + n : Nat) : Int)), some (.inl ((p + j : Nat) : Int)), some (.inl ((brL Z 48).length : Nat)), some (.inl u), o6] [] sh c3 := by
          intro k2
          induction k2 with
          | zero =>
            intro u n c3 o6 hu hR e76
            have hue : u = (brL Z 48).length := by omega
            refine g_iload (q := 46) dX3_reachLayer_44 rfl rfl ?_
            refine g_iload (q := 48) dX3_reachLayer_46 rfl rfl ?_
            refine g_icmp_ge (q := 51) (tg := 116) dX3_reachLayer_48 (by decide) rfl (fun c_48 => ?_) (fun c_48 => ?_)
            · refine s_iinc_7_3 (q := 119) dX3_reachLayer_116 rfl rfl rfl ?_
              refine g_goto (q := 16) dX3_reachLayer_119 (by decide) ?_
              have := ih (j + 1) n c3 (some (.inl ((brL Z 48).length : Nat))) (some (.inl u)) o6 (by omega) (hR.ext ?_)
              · rw [show ((p + (j + 1) : Nat) : Int) = ((p + j : Nat) : Int) + 1 by omega] at this
                exact this
              · intro x
                rw [hue, List.take_length]
                constructor
                · rintro (⟨j', k, a1, a2, a3⟩ | ⟨k, a1, a2⟩)
                  · exact ⟨j', k, by omega, a2, a3⟩
                  · exact ⟨j, k, by omega, by rw [hst, hZ]; exact a1, by rw [hst]; exact a2⟩
                · rintro ⟨j', k, a1, a2, a3⟩
                  by_cases ej : j' = j
                  · subst ej
                    rw [hst, hZ] at a2
                    rw [hst] at a3
                    exact Or.inr ⟨k, a2, a3⟩
                  · exact Or.inl ⟨j', k, by omega, a2, a3⟩
            · exact absurd c_48 (by unfold w32; omega)
          | succ k2 ih2 =>
            intro u n c3 o6 hu hR e76
            obtain ⟨q1, q2, q3, q4, q5, q6, q7, q8⟩ := id hR
            have L3 := q2.L
            have hul : u < (brL Z 48).length := by omega
            generalize hto : nxB β st ((brL Z 48)[u] / 8 : Nat) ((brL Z 48)[u] % 8 : Nat) = to
            have hti : 0 ≤ to ∧ to < 700 := by rw [← hto]; exact nx0 (List.getElem_mem hul) _
            have v76 : c3 76 u = to := by rw [e76, r76 u hul, ← hto]
            have hlen := q6.len
            have h5 := q5 to hti.1 hti.2
            have dext : ∀ x, ((∃ (j' k : Nat), j' < j ∧ k ∈ brL (alwN s β mk (ct 83 ((p + j' : Nat) : Int)) t) 48 ∧ x = nxB β (ct 83 ((p + j' : Nat) : Int)) (k / 8 : Nat) (k % 8 : Nat)) ∨ ∃ k ∈ (brL Z 48).take (u + 1), x = nxB β st (k / 8 : Nat) (k % 8 : Nat)) ↔ (((∃ (j' k : Nat), j' < j ∧ k ∈ brL (alwN s β mk (ct 83 ((p + j' : Nat) : Int)) t) 48 ∧ x = nxB β (ct 83 ((p + j' : Nat) : Int)) (k / 8 : Nat) (k % 8 : Nat)) ∨ ∃ k ∈ (brL Z 48).take u, x = nxB β st (k / 8 : Nat) (k % 8 : Nat)) ∨ x = to) := by
              intro x
              rw [List.take_add_one, List.getElem?_eq_getElem hul]
              constructor
              · rintro (h | ⟨k, a1, a2⟩)
                · exact Or.inl (Or.inl h)
                · rcases List.mem_append.mp a1 with a1 | a1
                  · exact Or.inl (Or.inr ⟨k, a1, a2⟩)
                  · simp at a1
                    subst a1
                    exact Or.inr (a2.trans hto)
              · rintro ((h | ⟨k, a1, a2⟩) | h)
                · exact Or.inl h
                · exact Or.inr ⟨k, List.mem_append.mpr (Or.inl a1), a2⟩
                · exact Or.inr ⟨(brL Z 48)[u], List.mem_append.mpr (Or.inr (by simp)), h.trans hto.symm⟩
            refine g_iload (q := 46) dX3_reachLayer_44 rfl rfl ?_
            refine g_iload (q := 48) dX3_reachLayer_46 rfl rfl ?_
            refine g_icmp_ge (q := 51) (tg := 116) dX3_reachLayer_48 (by decide) rfl (fun c_48 => ?_) (fun c_48 => ?_)
            · exact absurd c_48 (by unfold w32; omega)
            · refine g_aload_n (q := 52) dX3_reachLayer_51 rfl rfl ?_
              refine g_getO (q := 55) (kI := 0) fX3_36 (by first | assumption | exact S.at _ rfl) dX3_reachLayer_52 rfl rfl (by first | assumption | exact L.at _ _ rfl | exact LK.at (by assumption) _ _ rfl | ((repeat first | rewrite [wr_na (by decide)] | rewrite [wr_nk (by decide)] | rewrite [wa_na (by decide)]); first | assumption | exact LK.at (by assumption) _ _ rfl) | exact rfl) ?_
              refine g_getA (q := 58) (kI := 9) fX3_86 (by first | assumption | exact S.at _ rfl) dX3_reachLayer_55 rfl rfl (by first | assumption | exact L.at _ _ rfl | exact LK.at (by assumption) _ _ rfl | ((repeat first | rewrite [wr_na (by decide)] | rewrite [wr_nk (by decide)] | rewrite [wa_na (by decide)]); first | assumption | exact LK.at (by assumption) _ _ rfl) | exact rfl) ?_
              refine g_iload (q := 60) dX3_reachLayer_58 rfl rfl ?_
              refine g_iaload (q := 61) (by first | assumption | exact S.at _ rfl) (by omega) (by omega) (by omega) dX3_reachLayer_60 rfl ?_
              rw [v76]
              refine s_istore_7_6 (q := 63) dX3_reachLayer_61 rfl rfl rfl ?_
              refine g_aload_n (q := 64) dX3_reachLayer_63 rfl rfl ?_
              refine g_getA (q := 67) (kI := 3) fX3_15 (by first | assumption | exact S.at _ rfl) dX3_reachLayer_64 rfl rfl (by first | assumption | exact L.at _ _ rfl | exact LK.at (by assumption) _ _ rfl | ((repeat first | rewrite [wr_na (by decide)] | rewrite [wr_nk (by decide)] | rewrite [wa_na (by decide)]); first | assumption | exact LK.at (by assumption) _ _ rfl) | exact rfl) ?_
              refine g_iload_n (q := 68) dX3_reachLayer_67 rfl rfl ?_
              refine g_iconst (q := 69) dX3_reachLayer_68 rfl ?_
              refine g_iadd (q := 70) dX3_reachLayer_69 rfl ?_
              refine g_sipush (q := 73) dX3_reachLayer_70 (by decide +kernel) rfl ?_
              refine g_imul (q := 74) dX3_reachLayer_73 rfl ?_
              refine g_iload (q := 76) dX3_reachLayer_74 rfl rfl ?_
              refine g_iadd (q := 77) dX3_reachLayer_76 rfl ?_
              refine g_baload (q := 78) (by first | assumption | exact S.at _ rfl) (by omega) (by omega) (by omega) dX3_reachLayer_77 rfl ?_
              refine g_iconst (q := 79) dX3_reachLayer_78 rfl ?_
              refine g_icmp_ne (q := 82) (tg := 110) dX3_reachLayer_79 (by decide) rfl (fun c_79 => ?_) (fun c_79 => ?_)
              · -- it was there
                have hne : c3 82 ((i + 1) * 700 + to) + 1 ≠ 0 := by
                  intro h
                  have : c3 82 ((i + 1) * 700 + to) = -1 := by omega
                  rw [this] at c_79
                  exact c_79 rfl
                refine s_iinc_7_5 (q := 113) dX3_reachLayer_110 rfl rfl rfl ?_
                refine g_goto (q := 44) dX3_reachLayer_113 (by decide) ?_
                have := ih2 (u + 1) n c3 (some (.inl to)) (by omega) (RLI.ext ⟨q1, q2, q3, q4, q5, q6, fun t ht => Or.inl (q7 t ht), ?_⟩ (fun x => (dext x).symm)) e76
                · rw [Int.natCast_succ] at this
                  exact this
                · rintro x (h | rfl)
                  · exact q8 x h
                  · obtain ⟨t, t1, t2⟩ := (q6.2.2 x hti.1 hti.2).2.mp hne
                    exact ⟨t, t1, t2⟩
              · have hz0 : c3 82 ((i + 1) * 700 + to) = -1 := by
                  rcases h5 with h | h
                  · exact h
                  · rw [h] at c_79
                    exact absurd c_79 (by decide)
                have hadd : LYo (wr (wr c3 82 ((i + 1) * 700 + to) 100) 83 ((e + n : Nat) : Int) to 83) (fun x => wr (wr c3 82 ((i + 1) * 700 + to) 100) 83 ((e + n : Nat) : Int) to 82 ((i + 1) * 700 + x) + 1) e (n + 1) := by
                  refine (q6.new (x := 101) hti.1 hti.2 (by omega) ?_ ?_ ?_ wr_eq ?_).1
                  · show c3 82 ((i + 1) * 700 + to) + 1 = 0
                    omega
                  · show wr (wr c3 82 ((i + 1) * 700 + to) 100) 83 ((e + n : Nat) : Int) to 82 ((i + 1) * 700 + to) + 1 = c3 82 ((i + 1) * 700 + to) + 1 + 101
                    rw [wr_na (by decide), wr_eq, hz0]
                    rfl
                  · intro x hx
                    show wr (wr c3 82 ((i + 1) * 700 + to) 100) 83 ((e + n : Nat) : Int) to 82 ((i + 1) * 700 + x) + 1 = c3 82 ((i + 1) * 700 + x) + 1
                    rw [wr_na (by decide), wr_nk (by omega)]
                  · intro t ht
                    rw [wr_nk (by omega), wr_na (by decide)]
                have hlen2 := hadd.len
                refine g_aload_n (q := 83) dX3_reachLayer_82 rfl rfl ?_
                refine g_getA (q := 86) (kI := 3) fX3_15 (by first | assumption | exact S.at _ rfl) dX3_reachLayer_83 rfl rfl (by first | assumption | exact L.at _ _ rfl | exact LK.at (by assumption) _ _ rfl | ((repeat first | rewrite [wr_na (by decide)] | rewrite [wr_nk (by decide)] | rewrite [wa_na (by decide)]); first | assumption | exact LK.at (by assumption) _ _ rfl) | exact rfl) ?_
                refine g_iload_n (q := 87) dX3_reachLayer_86 rfl rfl ?_
                refine g_iconst (q := 88) dX3_reachLayer_87 rfl ?_
                refine g_iadd (q := 89) dX3_reachLayer_88 rfl ?_
                refine g_sipush (q := 92) dX3_reachLayer_89 (by decide +kernel) rfl ?_
                refine g_imul (q := 93) dX3_reachLayer_92 rfl ?_
                refine g_iload (q := 95) dX3_reachLayer_93 rfl rfl ?_
                refine g_iadd (q := 96) dX3_reachLayer_95 rfl ?_
                refine g_bipush (q := 98) dX3_reachLayer_96 (by decide +kernel) rfl ?_
                refine g_bastore (q := 99) (by first | assumption | exact S.at _ rfl) (by omega) (by omega) (by omega) dX3_reachLayer_98 rfl ?_
                refine g_aload_n (q := 100) dX3_reachLayer_99 rfl rfl ?_
                refine g_getA (q := 103) (kI := 4) fX3_19 (by first | assumption | exact S.at _ rfl) dX3_reachLayer_100 rfl rfl (by first | assumption | exact L.at _ _ rfl | exact LK.at (by assumption) _ _ rfl | ((repeat first | rewrite [wr_na (by decide)] | rewrite [wr_nk (by decide)] | rewrite [wa_na (by decide)]); first | assumption | exact LK.at (by assumption) _ _ rfl) | exact rfl) ?_
                refine g_iload_n (q := 104) dX3_reachLayer_103 rfl rfl ?_
                refine g_iload (q := 106) dX3_reachLayer_104 rfl rfl ?_
                refine g_iastore (q := 107) (by first | assumption | exact S.at _ rfl) (by omega) (by omega) (by omega) dX3_reachLayer_106 rfl ?_
                refine s_iinc_7_2 (q := 110) dX3_reachLayer_107 rfl rfl rfl ?_
                refine s_iinc_7_5 (q := 113) dX3_reachLayer_110 rfl rfl rfl ?_
                refine g_goto (q := 44) dX3_reachLayer_113 (by decide) ?_
                have := ih2 (u + 1) (n + 1) (wr (wr c3 82 ((i + 1) * 700 + to) 100) 83 ((e + n : Nat) : Int) to) (some (.inl to)) (by omega) (RLI.ext ⟨(q1.wr (by decide)).wr (by decide), (q2.x (a := 82) (by decide) (lkF_none rfl _) rfl).x (by decide) (lkF_none rfl _) rfl, ?_, ?_, ?_, hadd, ?_, ?_⟩ (fun x => (dext x).symm)) ?_
                · rw [Int.natCast_succ, show ((e + (n + 1) : Nat) : Int) = ((e + n : Nat) : Int) + 1 by omega] at this
                  exact this
                · intro t ht
                  rw [wr_nk (by omega), wr_na (by decide)]
                  exact q3 t ht
                · intro x hx
                  rw [wr_na (by decide), wr_nk (by omega)]
                  exact q4 x hx
                · intro x x0 x1
                  rw [wr_na (by decide)]
                  by_cases ex : x = to
                  · rw [ex, wr_eq]
                    exact Or.inr rfl
                  · rw [wr_nk (by omega)]
                    exact q5 x x0 x1
                · intro t ht
                  by_cases et : t = n
                  · subst et
                    rw [wr_eq]
                    exact Or.inr rfl
                  · rw [wr_nk (by omega), wr_na (by decide)]
                    exact Or.inl (q7 t (by omega))
                · rintro x (h | rfl)
                  · obtain ⟨t, t1, t2⟩ := q8 x h
                    exact ⟨t, by omega, by rw [wr_nk (by omega), wr_na (by decide)]; exact t2⟩
                  · exact ⟨n, by omega, wr_eq⟩
                · rw [wr_other _ _ _ _ _ (by decide), wr_other _ _ _ _ _ (by decide)]
                  exact e76
        refine s_istore_7_4 (q := 41) dX3_reachLayer_39 rfl rfl rfl ?_
        refine g_iconst (q := 42) dX3_reachLayer_41 rfl ?_
        refine s_istore_7_5 (q := 44) dX3_reachLayer_42 rfl rfl rfl ?_
        refine inner (brL Z 48).length 0 n c2 o6 (by omega) ?_ rfl
        have x83 : c2 83 = c 83 := m1.1 83 (by decide)
        have x82 : c2 82 = c 82 := m1.1 82 (by decide)
        refine RLI.ext (D := fun st => ∃ (j' k : Nat), j' < j ∧ k ∈ brL (alwN s β mk (ct 83 ((p + j' : Nat) : Int)) t) 48 ∧ st = nxB β (ct 83 ((p + j' : Nat) : Int)) (k / 8 : Nat) (k % 8 : Nat)) ⟨g1.tr (m1.1.mono (by decide)), m1.2, by rw [x83]; exact g3, by rw [x82]; exact g4, by rw [x82]; exact g5, by rw [x83, x82]; exact g6, by rw [x83]; exact g7, by rw [x83]; exact g8⟩ ?_
        intro x
        simp
  refine Mt.of rfl (Nat.le_of_ble_eq_true rfl) ?_
  show G _ 0 [some (.inr (.inr 80)), some (.inl i), none, none, none, none, none] [] sh ct
  refine g_aload_n (q := 1) dX3_reachLayer_0 rfl rfl ?_
  refine g_getA (q := 4) (kI := 5) fX3_22 (by first | assumption | exact S.at _ rfl) dX3_reachLayer_1 rfl rfl (by first | assumption | exact L.at _ _ rfl | exact LK.at (by assumption) _ _ rfl | ((repeat first | rewrite [wr_na (by decide)] | rewrite [wr_nk (by decide)] | rewrite [wa_na (by decide)]); first | assumption | exact LK.at (by assumption) _ _ rfl) | exact rfl) ?_
  refine g_iload_n (q := 5) dX3_reachLayer_4 rfl rfl ?_
  refine g_iconst (q := 6) dX3_reachLayer_5 rfl ?_
  refine g_iadd (q := 7) dX3_reachLayer_6 rfl ?_
  refine g_iaload (q := 8) (by first | assumption | exact S.at _ rfl) (by omega) (by omega) (by omega) dX3_reachLayer_7 rfl ?_
  rw [he]
  refine s_istore_n_7_2 (q := 9) dX3_reachLayer_8 rfl rfl rfl ?_
  refine g_aload_n (q := 10) dX3_reachLayer_9 rfl rfl ?_
  refine g_getA (q := 13) (kI := 5) fX3_22 (by first | assumption | exact S.at _ rfl) dX3_reachLayer_10 rfl rfl (by first | assumption | exact L.at _ _ rfl | exact LK.at (by assumption) _ _ rfl | ((repeat first | rewrite [wr_na (by decide)] | rewrite [wr_nk (by decide)] | rewrite [wa_na (by decide)]); first | assumption | exact LK.at (by assumption) _ _ rfl) | exact rfl) ?_
  refine g_iload_n (q := 14) dX3_reachLayer_13 rfl rfl ?_
  refine g_iaload (q := 15) (by first | assumption | exact S.at _ rfl) (by omega) (by omega) (by omega) dX3_reachLayer_14 rfl ?_
  rw [hp]
  refine s_istore_n_7_3 (q := 16) dX3_reachLayer_15 rfl rfl rfl ?_
  have := outer m 0 0 ct none none none (by omega) ⟨eqBut.rf, M, fun _ _ => rfl, fun _ _ => rfl, fun st s0 s1 => Or.inl (hr st s0 s1), ⟨fun t ht => by omega, fun t u ht => by omega, fun st s0 s1 => ?_⟩, fun t ht => by omega, fun st ⟨j, k, h, _⟩ => by omega⟩
  · exact this
  · show 0 ≤ ct 82 ((i + 1) * 700 + st) + 1 ∧ (ct 82 ((i + 1) * 700 + st) + 1 ≠ 0 ↔ _)
    rw [hr st s0 s1]
    exact ⟨by decide, fun h => absurd rfl h, fun ⟨t, ht, _⟩ => by omega⟩
/-- how many others there are by a minute -/
theorem c_othersBy {i b t st : Int} {β : Bk} {mk : Int → Int} {l : List Nat} {k : Nat} {v : Int} (S : SH sh) (L : LK ct) (i0 : 0 ≤ i) (i1 : i < 12) (ht : ct 81 i = t) (ho : toldOk β t) (hb2 : β.n 2 ≤ 6) (h8 : ct 80 8 = 0 ∨ ct 80 8 = 1) (r75 : rowIs (ct 75) mnt l) (r76 : rowIs (ct 76) (fun i => nxB β st (i / 8 : Nat) (i % 8 : Nat)) l) (hk : k < l.length) (hl : l.length ≤ 48) (hb : ∀ x ∈ l, x < 48) (hv : ct 82 ((i + 1) * 700 + nxB β st (l[k] / 8 : Nat) (l[k] % 8 : Nat)) = v) : Mt YX3_othersBy d [.inr (.inr 80), .inl i, .inl k] sh sh ct (pI fun r c => r = v + cost (ct 80 8) t l[k] ∧ c = ct) := by
  have s75 : shA sh 75 = some (20, 48) := S.at _ rfl
  have s76 : shA sh 76 = some (20, 48) := S.at _ rfl
  have s81 : shA sh 81 = some (20, 12) := S.at _ rfl
  have s82 : shA sh 82 = some (22, 9100) := S.at _ rfl
  have hx := hb _ (List.getElem_mem hk)
  have hn := nxB_in (β := β) (st := st) (m := ((l[k] / 8 : Nat) : Int)) (s := ((l[k] % 8 : Nat) : Int)) (by omega) (by omega)
  have v75 := r75 k hk
  have v76 : ct 76 k = nxB β st (l[k] / 8 : Nat) (l[k] % 8 : Nat) := r76 k hk
  have hm : 0 ≤ mnt l[k] ∧ mnt l[k] < 100 := by unfold mnt; omega
  have htr : -1 ≤ t ∧ t < 1000 := by rcases ho with h | ⟨a1, a2, a3⟩ <;> omega
  generalize hP : (pI fun r c => r = v + cost (ct 80 8) t l[k] ∧ c = ct) = Po
  have fin : ∀ w : Int, w = cost (ct 80 8) t l[k] → G (mkK YX3_othersBy d sh sh Po) 30 [some (.inr (.inr 80)), some (.inl i), some (.inl k), none] [.inl w] sh ct := by
    intro w hw
    refine s_istore_n_4_3 (q := 31) dX3_othersBy_30 rfl rfl rfl ?_
    refine g_aload_n (q := 32) dX3_othersBy_31 rfl rfl ?_
    refine g_getA (q := 35) (kI := 3) fX3_15 (by first | assumption | exact S.at _ rfl) dX3_othersBy_32 rfl rfl (by first | assumption | exact L.at _ _ rfl | exact LK.at (by assumption) _ _ rfl | ((repeat first | rewrite [wr_na (by decide)] | rewrite [wr_nk (by decide)] | rewrite [wa_na (by decide)]); first | assumption | exact LK.at (by assumption) _ _ rfl) | exact rfl) ?_
    refine g_iload_n (q := 36) dX3_othersBy_35 rfl rfl ?_
    refine g_iconst (q := 37) dX3_othersBy_36 rfl ?_
    refine g_iadd (q := 38) dX3_othersBy_37 rfl ?_
    refine g_sipush (q := 41) dX3_othersBy_38 (by decide +kernel) rfl ?_
    refine g_imul (q := 42) dX3_othersBy_41 rfl ?_
    refine g_aload_n (q := 43) dX3_othersBy_42 rfl rfl ?_
    refine g_getO (q := 46) (kI := 0) fX3_36 (by first | assumption | exact S.at _ rfl) dX3_othersBy_43 rfl rfl (by first | assumption | exact L.at _ _ rfl | exact LK.at (by assumption) _ _ rfl | ((repeat first | rewrite [wr_na (by decide)] | rewrite [wr_nk (by decide)] | rewrite [wa_na (by decide)]); first | assumption | exact LK.at (by assumption) _ _ rfl) | exact rfl) ?_
    refine g_getA (q := 49) (kI := 9) fX3_86 (by first | assumption | exact S.at _ rfl) dX3_othersBy_46 rfl rfl (by first | assumption | exact L.at _ _ rfl | exact LK.at (by assumption) _ _ rfl | ((repeat first | rewrite [wr_na (by decide)] | rewrite [wr_nk (by decide)] | rewrite [wa_na (by decide)]); first | assumption | exact LK.at (by assumption) _ _ rfl) | exact rfl) ?_
    refine g_iload_n (q := 50) dX3_othersBy_49 rfl rfl ?_
    refine g_iaload (q := 51) (by first | assumption | exact S.at _ rfl) (by omega) (by omega) (by omega) dX3_othersBy_50 rfl ?_
    rw [v76]
    refine g_iadd (q := 52) dX3_othersBy_51 rfl ?_
    refine g_baload (q := 53) (by first | assumption | exact S.at _ rfl) (by omega) (by omega) (by omega) dX3_othersBy_52 rfl ?_
    rw [hv]
    refine g_iload_n (q := 54) dX3_othersBy_53 rfl rfl ?_
    refine g_iadd (q := 55) dX3_othersBy_54 rfl ?_
    refine g_ireturn dX3_othersBy_55 rfl ?_
    rw [← hP]
    exact ⟨_, rfl, by rw [hw], rfl⟩
  refine Mt.of rfl (Nat.le_of_ble_eq_true rfl) ?_
  show G _ 0 [some (.inr (.inr 80)), some (.inl i), some (.inl k), none] [] sh ct
  refine g_aload_n (q := 1) dX3_othersBy_0 rfl rfl ?_
  refine g_getZ (q := 4) (kI := 8) fX3_68 (by first | assumption | exact S.at _ rfl) dX3_othersBy_1 rfl rfl ?_
  rcases h8 with h8 | h8
  · rw [h8] at fin ⊢
    refine g_if_ne (q := 7) (tg := 25) dX3_othersBy_4 (by decide) rfl (fun c_4 => ?_) (fun c_4 => ?_)
    · exact absurd rfl c_4
    · refine g_aload_n (q := 8) dX3_othersBy_7 rfl rfl ?_
      refine g_getA (q := 11) (kI := 1) fX3_9 (by first | assumption | exact S.at _ rfl) dX3_othersBy_8 rfl rfl (by first | assumption | exact L.at _ _ rfl | exact LK.at (by assumption) _ _ rfl | ((repeat first | rewrite [wr_na (by decide)] | rewrite [wr_nk (by decide)] | rewrite [wa_na (by decide)]); first | assumption | exact LK.at (by assumption) _ _ rfl) | exact rfl) ?_
      refine g_iload_n (q := 12) dX3_othersBy_11 rfl rfl ?_
      refine g_iaload (q := 13) (by first | assumption | exact S.at _ rfl) (by omega) (by omega) (by omega) dX3_othersBy_12 rfl ?_
      rw [ht]
      refine g_aload_n (q := 14) dX3_othersBy_13 rfl rfl ?_
      refine g_getO (q := 17) (kI := 0) fX3_36 (by first | assumption | exact S.at _ rfl) dX3_othersBy_14 rfl rfl (by first | assumption | exact L.at _ _ rfl | exact LK.at (by assumption) _ _ rfl | ((repeat first | rewrite [wr_na (by decide)] | rewrite [wr_nk (by decide)] | rewrite [wa_na (by decide)]); first | assumption | exact LK.at (by assumption) _ _ rfl) | exact rfl) ?_
      refine g_getA (q := 20) (kI := 8) fX3_116 (by first | assumption | exact S.at _ rfl) dX3_othersBy_17 rfl rfl (by first | assumption | exact L.at _ _ rfl | exact LK.at (by assumption) _ _ rfl | ((repeat first | rewrite [wr_na (by decide)] | rewrite [wr_nk (by decide)] | rewrite [wa_na (by decide)]); first | assumption | exact LK.at (by assumption) _ _ rfl) | exact rfl) ?_
      refine g_iload_n (q := 21) dX3_othersBy_20 rfl rfl ?_
      refine g_iaload (q := 22) (by first | assumption | exact S.at _ rfl) (by omega) (by omega) (by omega) dX3_othersBy_21 rfl ?_
      rw [v75]
      refine g_icmp_ne (q := 25) (tg := 29) dX3_othersBy_22 (by decide) rfl (fun c_22 => ?_) (fun c_22 => ?_)
      · refine g_iconst (q := 30) dX3_othersBy_29 rfl ?_
        refine fin 1 ?_
        unfold cost
        rw [if_neg]
        rintro (h | h)
        · omega
        · exact c_22 (by rw [h])
      · refine g_iconst (q := 26) dX3_othersBy_25 rfl ?_
        refine g_goto (q := 30) dX3_othersBy_26 (by decide) ?_
        refine fin 0 ?_
        unfold cost
        rw [if_pos (Or.inr (by unfold w32 at c_22; omega))]
  · rw [h8] at fin ⊢
    refine g_if_ne (q := 7) (tg := 25) dX3_othersBy_4 (by decide) rfl (fun c_4 => ?_) (fun c_4 => ?_)
    · refine g_iconst (q := 26) dX3_othersBy_25 rfl ?_
      refine g_goto (q := 30) dX3_othersBy_26 (by decide) ?_
      refine fin 0 ?_
      unfold cost
      rw [if_pos (Or.inl rfl)]
    · exact absurd c_4 (by decide)
end
