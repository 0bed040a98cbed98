/-! Layers: weighed backwards -/
/-- a layer that is laid out: its states, what is said of each -/
def LA (c : mbCt) (R : Int → Prop) (i : Int) (v : Int → Int) : Prop := ∃ p m : Nat, c 84 i = p ∧ c 84 (i + 1) = ((p + m : Nat) : Int) ∧ ((p + m : Nat) : Int) ≤ 700 * (i + 1) ∧ (∀ t : Nat, t < m → 0 ≤ c 83 ((p + t : Nat) : Int) ∧ c 83 ((p + t : Nat) : Int) < 700 ∧ R (c 83 ((p + t : Nat) : Int))) ∧ (∀ st, R st → ∃ t : Nat, t < m ∧ c 83 ((p + t : Nat) : Int) = st) ∧ (∀ st : Int, 0 ≤ st → st < 700 → (R st → c 82 (i * 700 + st) = v st) ∧ (¬ R st → c 82 (i * 700 + st) = -1))
theorem LA.mv {c c2 : mbCt} {R : Int → Prop} {i : Int} {v : Int → Int} (h : LA c R i v) (e82 : ∀ st : Int, 0 ≤ st → st < 700 → c2 82 (i * 700 + st) = c 82 (i * 700 + st)) (e83 : ∀ k, 0 ≤ k → k < c 84 (i + 1) → c2 83 k = c 83 k) (e84 : c2 84 i = c 84 i) (e84b : c2 84 (i + 1) = c 84 (i + 1)) : LA c2 R i v := by
  obtain ⟨p, m, h1, h2, h3, h4, h5, h6⟩ := h
  have hh : ∀ t : Nat, t < m → c2 83 ((p + t : Nat) : Int) = c 83 ((p + t : Nat) : Int) := fun t ht => e83 _ (by omega) (by rw [h2]; omega)
  refine ⟨p, m, by rw [e84]; exact h1, by rw [e84b]; exact h2, h3, fun t ht => by rw [hh t ht]; exact h4 t ht, fun st hs => ?_, fun st s0 s1 => by rw [e82 st s0 s1]; exact h6 st s0 s1⟩
  obtain ⟨t, t1, t2⟩ := h5 st hs
  exact ⟨t, t1, by rw [hh t t1]; exact t2⟩
section
variable (d : Nat) (sh : mbSh) (ct : mbCt)
theorem c_fewestFrom {i b t st : Int} {β : Bk} {mk : Int → Int} {v : Int → Int} (S : SH sh) (M : MV ct b β mk) (i0 : 0 ≤ i) (i1 : i < 12) (ht : ct 81 i = t) (ho : toldOk β t) (h8 : ct 80 8 = 0 ∨ ct 80 8 = 1) (h0 : 0 ≤ st) (h1 : st < 700) (hv : ∀ k ∈ brL (alwN (ct 80 8) β mk st t) 48, ct 82 ((i + 1) * 700 + nxB β st (k / 8 : Nat) (k % 8 : Nat)) = v (nxB β st (k / 8 : Nat) (k % 8 : Nat))) (hvr : ∀ x, 0 ≤ v x ∧ v x ≤ 100) : Mt YX3_fewestFrom (d + 4) [.inr (.inr 80), .inl i, .inl st] sh sh ct (pI fun r c => r = lmin (fun k => v (nxB β st (k / 8 : Nat) (k % 8 : Nat)) + cost (ct 80 8) t k) (brL (alwN (ct 80 8) β mk st t) 48) ∧ MVt ct c b β mk) := by
  have hme := M.me
  generalize hP : (pI fun r c => r = lmin (fun k => v (nxB β st (k / 8 : Nat) (k % 8 : Nat)) + cost (ct 80 8) t k) (brL (alwN (ct 80 8) β mk st t) 48) ∧ MVt ct c b β mk) = Po
  refine Mt.of rfl (Nat.le_of_ble_eq_true rfl) ?_
  show G _ 0 [some (.inr (.inr 80)), some (.inl i), some (.inl st), none, none, none] [] sh ct
  refine g_bipush (q := 2) dX3_fewestFrom_0 (by decide +kernel) rfl ?_
  refine s_istore_n_6_3 (q := 3) dX3_fewestFrom_2 rfl rfl rfl ?_
  refine g_aload_n (q := 4) dX3_fewestFrom_3 rfl rfl ?_
  refine g_iload_n (q := 5) dX3_fewestFrom_4 rfl rfl ?_
  refine g_iload_n (q := 6) dX3_fewestFrom_5 rfl rfl ?_
  refine g_callV (q := 9) lX3_83 mX3_branchFor nX3_branchFor rfl (c_branchFor d sh ct S M i0 i1 ht ho h0 h1 h8) (by first | assumption | exact S.at _ rfl) rfl rfl shLe.rf (rmOk.mk (by omega) (by first | exact shLe.rf | assumption)) (Nat.le_of_ble_eq_true rfl) dX3_fewestFrom_6 rfl rfl (kI fun r c hp => ?_)
  obtain ⟨rfl, r75, r76, m1⟩ := hp
  have L1 := m1.2.L
  have e80 : c 80 = ct 80 := m1.1 80 (by decide)
  have e81 : c 81 = ct 81 := m1.1 81 (by decide)
  have e82 : c 82 = ct 82 := m1.1 82 (by decide)
  generalize hB : brL (alwN (ct 80 8) β mk st t) 48 = l at r75 r76 hv hP
  have hl : l.length ≤ 48 := by rw [← hB]; exact brL_len _ _
  have hlb : ∀ x ∈ l, x < 48 := fun x hx => by rw [← hB] at hx; exact (brL_mem.mp hx).1
  have loop : ∀ (k u : Nat), u + k = l.length → G (mkK YX3_fewestFrom (d + 4) sh sh Po) 14 [some (.inr (.inr 80)), some (.inl i), some (.inl st), some (.inl (lmin (fun k => v (nxB β st (k / 8 : Nat) (k % 8 : Nat)) + cost (ct 80 8) t k) (l.take u))), some (.inl (l.length : Nat)), some (.inl u)] [] sh c := by
    intro k
    induction k with
    | zero =>
      intro u hu
      refine g_iload (q := 16) dX3_fewestFrom_14 rfl rfl ?_
      refine g_iload (q := 18) dX3_fewestFrom_16 rfl rfl ?_
      refine g_icmp_ge (q := 21) (tg := 39) dX3_fewestFrom_18 (by decide) rfl (fun c_18 => ?_) (fun c_18 => ?_)
      · refine g_iload_n (q := 40) dX3_fewestFrom_39 rfl rfl ?_
        refine g_ireturn dX3_fewestFrom_40 rfl ?_
        rw [← hP]
        exact ⟨_, rfl, by rw [show u = l.length by omega, List.take_length], m1⟩
      · exact absurd c_18 (by unfold w32; omega)
    | succ k ih =>
      intro u hu
      have hul : u < l.length := by omega
      have hmem := List.getElem_mem hul
      refine g_iload (q := 16) dX3_fewestFrom_14 rfl rfl ?_
      refine g_iload (q := 18) dX3_fewestFrom_16 rfl rfl ?_
      refine g_icmp_ge (q := 21) (tg := 39) dX3_fewestFrom_18 (by decide) rfl (fun c_18 => ?_) (fun c_18 => ?_)
      · exact absurd c_18 (by unfold w32; omega)
      · refine g_iload_n (q := 22) dX3_fewestFrom_21 rfl rfl ?_
        refine g_aload_n (q := 23) dX3_fewestFrom_22 rfl rfl ?_
        refine g_iload_n (q := 24) dX3_fewestFrom_23 rfl rfl ?_
        refine g_iload (q := 26) dX3_fewestFrom_24 rfl rfl ?_
        refine g_callV (q := 29) lX3_108 mX3_othersBy nX3_othersBy rfl (c_othersBy (d + 3) sh c (b := b) (mk := mk) (v := v (nxB β st (l[u] / 8 : Nat) (l[u] % 8 : Nat))) S L1 i0 i1 (by rw [e81]; exact ht) ho hme.2 (by rw [e80]; exact h8) r75 r76 hul hl hlb (by rw [e82]; exact hv _ hmem)) (by first | assumption | exact S.at _ rfl) rfl rfl shLe.rf (rmOk.mk (by omega) (by first | exact shLe.rf | assumption)) (Nat.le_of_ble_eq_true rfl) dX3_fewestFrom_26 rfl rfl (kI fun r c2 hp => ?_)
        obtain ⟨rfl, rfl⟩ := hp
        rw [e80]
        have hc := cost_in (ct 80 8) t l[u]
        have hv1 := hvr (nxB β st (l[u] / 8 : Nat) (l[u] % 8 : Nat))
        have hm0 := lmin_nn (f := fun k => v (nxB β st (k / 8 : Nat) (k % 8 : Nat)) + cost (ct 80 8) t k) (l := l.take u) (fun k _ => by have := hvr (nxB β st (k / 8 : Nat) (k % 8 : Nat)); have := cost_in (ct 80 8) t k; omega)
        have hm1 := (lmin_le (fun k => v (nxB β st (k / 8 : Nat) (k % 8 : Nat)) + cost (ct 80 8) t k) (l.take u)).1
        have e : (if w32 (v (nxB β st (l[u] / 8 : Nat) (l[u] % 8 : Nat)) + cost (ct 80 8) t l[u]) < w32 (lmin (fun k => v (nxB β st (k / 8 : Nat) (k % 8 : Nat)) + cost (ct 80 8) t k) (l.take u)) then v (nxB β st (l[u] / 8 : Nat) (l[u] % 8 : Nat)) + cost (ct 80 8) t l[u] else lmin (fun k => v (nxB β st (k / 8 : Nat) (k % 8 : Nat)) + cost (ct 80 8) t k) (l.take u)) = lmin (fun k => v (nxB β st (k / 8 : Nat) (k % 8 : Nat)) + cost (ct 80 8) t k) (l.take (u + 1)) := by
          rw [List.take_add_one, List.getElem?_eq_getElem hul]
          show _ = lmin _ (l.take u ++ [l[u]])
          rw [lmin_snoc, w32_id (by omega) (by omega), w32_id (by omega) (by omega)]
        refine g_mmin (q := 32) lX3_111 tb_mminS tb_mI tb_mminC (rmOk.mk (by omega) (by first | exact shLe.rf | assumption)) (Nat.le_of_ble_eq_true rfl) dX3_fewestFrom_29 rfl ?_
        rw [e]
        refine s_istore_n_6_3 (q := 33) dX3_fewestFrom_32 rfl rfl rfl ?_
        refine s_iinc_6_5 (q := 36) dX3_fewestFrom_33 rfl rfl rfl ?_
        refine g_goto (q := 14) dX3_fewestFrom_36 (by decide) ?_
        have := ih (u + 1) (by omega)
        rw [Int.natCast_succ] at this
        exact this
  refine s_istore_6_4 (q := 11) dX3_fewestFrom_9 rfl rfl rfl ?_
  refine g_iconst (q := 12) dX3_fewestFrom_11 rfl ?_
  refine s_istore_6_5 (q := 14) dX3_fewestFrom_12 rfl rfl rfl ?_
  exact loop l.length 0 (by omega)
/-- all layers are laid out, the first i of them -/
def WL (c : mbCt) (R : Nat → Int → Prop) (sz i : Nat) : Prop := (∀ j : Nat, j ≤ i → LA c (R j) j (fun _ => 100)) ∧ (∀ j : Nat, j ≤ i → c 84 (j + 1) ≤ c 84 (i + 1)) ∧ ∀ j : Nat, i < j → j ≤ sz → ∀ st : Int, 0 ≤ st → st < 700 → c 82 (j * 700 + st) = -1
/-- what weighing leaves, for what it was asked -/
def WG (c : mbCt) (β : Bk) (mk : Int → Int) (sz : Nat) : Prop := ∀ j : Nat, j ≤ sz → LA c (Rch (c 80 8) β mk (c 81) (c 80 10) j) j (eW (c 80 8) β mk (c 80 11) (c 81) sz (sz - j))
def WgRes (ct : mbCt) (b : Int) (β : Bk) (mk : Int → Int) (from' tone s : Int) (sz : Nat) (c : mbCt) : Prop := eqBut [68, 69, 72, 73, 75, 76, 80, 82, 83, 84] ct c ∧ MV c b β mk ∧ (∀ k, k ≠ 8 → k ≠ 9 → k ≠ 10 → k ≠ 11 → c 80 k = ct 80 k) ∧ c 80 8 = s ∧ c 80 9 = c 70 7 ∧ c 80 10 = from' ∧ c 80 11 = tone ∧ WG c β mk sz
theorem c_weigh {b from' tone s : Int} {β : Bk} {mk : Int → Int} {sz : Nat} (S : SH sh) (M : MV ct b β mk) (f0 : 0 ≤ from') (f1 : from' < 700) (t0 : -1 ≤ tone) (t1 : tone ≤ 10) (hs : s = 0 ∨ s = 1) (hsz : ct 80 2 = sz) (hs1 : sz ≤ 12) (hto : ∀ i : Nat, i < sz → toldOk β (ct 81 i)) (h8 : ct 80 8 = 0 ∨ ct 80 8 = 1) (h9 : -1 ≤ ct 80 9 ∧ ct 80 9 < 1000000 ∧ 0 ≤ ct 70 7 ∧ ct 70 7 < 1000000) (h10 : 0 ≤ ct 80 10 ∧ ct 80 10 < 700) (h11 : -1 ≤ ct 80 11 ∧ ct 80 11 ≤ 10) (hW : ct 80 9 = ct 70 7 → WG ct β mk sz) : Mt YX3_weigh (d + 5) [.inr (.inr 80), .inl from', .inl tone, .inl s] sh sh ct (pI fun r c => r = (if eW s β mk tone (ct 81) sz sz from' = 100 then -1 else eW s β mk tone (ct 81) sz sz from') ∧ WgRes ct b β mk from' tone s sz c) := by
  have L := M.L
  have s82 : shA sh 82 = some (22, 9100) := S.at _ rfl
  have s83 : shA sh 83 = some (20, 9100) := S.at _ rfl
  have s84 : shA sh 84 = some (20, 14) := S.at _ rfl
  generalize hP : (pI fun r c => r = (if eW s β mk tone (ct 81) sz sz from' = 100 then -1 else eW s β mk tone (ct 81) sz sz from') ∧ WgRes ct b β mk from' tone s sz c) = Po
  have v0 : ∀ (c : mbCt), WgRes ct b β mk from' tone s sz c → c 82 from' = eW s β mk tone (ct 81) sz sz from' := by
    intro c ⟨g1, g2, g3, g4, g5, g6, g7, g8⟩
    obtain ⟨p, m, -, -, -, -, -, h6⟩ := g8 0 (by omega)
    have := (h6 from' f0 f1).1 g6.symm
    rw [g4, g7, g1 81 (by decide), Nat.sub_zero] at this
    rw [← this]
    show c 82 from' = c 82 (0 * 700 + from')
    rw [show (0 : Int) * 700 + from' = from' by omega]
  -- the answer
  have ans : ∀ (c : mbCt) (o4 o5 : Option gV), WgRes ct b β mk from' tone s sz c → G (mkK YX3_weigh (d + 5) sh sh Po) 316 [some (.inr (.inr 80)), some (.inl from'), some (.inl tone), some (.inl s), o4, o5] [] sh c := by
    intro c o4 o5 hc
    have hv := v0 c hc
    have he := eW_in (s := s) (β := β) (mk := mk) (tone := tone) (tl := ct 81) (n := sz) sz from'
    have Lc := hc.2.1.L
    have l10 : c 80 10 = from' := hc.2.2.2.2.2.1
    refine g_aload_n (q := 317) dX3_weigh_316 rfl rfl ?_
    refine g_getA (q := 320) (kI := 3) fX3_15 (by first | assumption | exact S.at _ rfl) dX3_weigh_317 rfl rfl (by first | assumption | exact L.at _ _ rfl | exact LK.at (by assumption) _ _ rfl | ((repeat first | rewrite [wr_na (by decide)] | rewrite [wr_nk (by decide)] | rewrite [wa_na (by decide)]); first | assumption | exact LK.at (by assumption) _ _ rfl) | exact rfl) ?_
    refine g_aload_n (q := 321) dX3_weigh_320 rfl rfl ?_
    refine g_getI (q := 324) (kI := 10) fX3_90 (by first | assumption | exact S.at _ rfl) dX3_weigh_321 rfl rfl ?_
    rw [l10]
    refine g_baload (q := 325) (by first | assumption | exact S.at _ rfl) (by omega) (by omega) (by omega) dX3_weigh_324 rfl ?_
    rw [hv]
    refine g_bipush (q := 327) dX3_weigh_325 (by decide +kernel) rfl ?_
    refine g_icmp_ne (q := 330) (tg := 334) dX3_weigh_327 (by decide) rfl (fun c_327 => ?_) (fun c_327 => ?_)
    · refine g_aload_n (q := 335) dX3_weigh_334 rfl rfl ?_
      refine g_getA (q := 338) (kI := 3) fX3_15 (by first | assumption | exact S.at _ rfl) dX3_weigh_335 rfl rfl (by first | assumption | exact L.at _ _ rfl | exact LK.at (by assumption) _ _ rfl | ((repeat first | rewrite [wr_na (by decide)] | rewrite [wr_nk (by decide)] | rewrite [wa_na (by decide)]); first | assumption | exact LK.at (by assumption) _ _ rfl) | exact rfl) ?_
      refine g_aload_n (q := 339) dX3_weigh_338 rfl rfl ?_
      refine g_getI (q := 342) (kI := 10) fX3_90 (by first | assumption | exact S.at _ rfl) dX3_weigh_339 rfl rfl ?_
      rw [l10]
      refine g_baload (q := 343) (by first | assumption | exact S.at _ rfl) (by omega) (by omega) (by omega) dX3_weigh_342 rfl ?_
      rw [hv]
      refine g_ireturn dX3_weigh_343 rfl ?_
      rw [← hP]
      refine ⟨_, rfl, ?_, hc⟩
      rw [if_neg (fun h => c_327 (by rw [h]))]
    · have : eW s β mk tone (ct 81) sz sz from' = 100 := by unfold w32 at c_327; omega
      refine g_iconst (q := 331) dX3_weigh_330 rfl ?_
      refine g_goto (q := 343) dX3_weigh_331 (by decide) ?_
      refine g_ireturn dX3_weigh_343 rfl ?_
      rw [← hP]
      refine ⟨_, rfl, ?_, hc⟩
      rw [if_pos this]
  -- what stays while it is weighed
  have base : ∀ c : mbCt, (eqBut [68, 69, 72, 73, 75, 76, 80, 82, 83, 84] ct c ∧ MV c b β mk ∧ (∀ k, k ≠ 8 → k ≠ 9 → k ≠ 10 → k ≠ 11 → c 80 k = ct 80 k) ∧ c 80 8 = s ∧ c 80 9 = c 70 7 ∧ c 80 10 = from' ∧ c 80 11 = tone) ↔ (eqBut [68, 69, 72, 73, 75, 76, 80, 82, 83, 84] ct c ∧ MV c b β mk ∧ (∀ k, k ≠ 8 → k ≠ 9 → k ≠ 10 → k ≠ 11 → c 80 k = ct 80 k) ∧ c 80 8 = s ∧ c 80 9 = c 70 7 ∧ c 80 10 = from' ∧ c 80 11 = tone) := fun _ => Iff.rfl
  -- backwards
  have backw : ∀ (i : Nat) (c : mbCt) (o5 : Option gV), i ≤ sz → (eqBut [68, 69, 72, 73, 75, 76, 80, 82, 83, 84] ct c ∧ MV c b β mk ∧ (∀ k, k ≠ 8 → k ≠ 9 → k ≠ 10 → k ≠ 11 → c 80 k = ct 80 k) ∧ c 80 8 = s ∧ c 80 9 = c 70 7 ∧ c 80 10 = from' ∧ c 80 11 = tone) → (∀ j : Nat, j < i → LA c (Rch s β mk (ct 81) from' j) j (fun _ => 100)) → (∀ j : Nat, i ≤ j → j ≤ sz → LA c (Rch s β mk (ct 81) from' j) j (eW s β mk tone (ct 81) sz (sz - j))) → G (mkK YX3_weigh (d + 5) sh sh Po) 243 [some (.inr (.inr 80)), some (.inl from'), some (.inl tone), some (.inl s), some (.inl ((i : Int) - 1)), o5] [] sh c := by
    intro i
    induction i with
    | zero =>
      intro c o5 hi ⟨g1, g2, g3, g4, g5, g6, g7⟩ h100 heW
      refine g_iload (q := 245) dX3_weigh_243 rfl rfl ?_
      refine g_if_lt (q := 248) (tg := 316) dX3_weigh_245 (by decide) rfl (fun c_245 => ?_) (fun c_245 => ?_)
      · refine ans c _ o5 ⟨g1, g2, g3, g4, g5, g6, g7, ?_⟩
        intro j hj
        rw [g4, g6, g7, g1 81 (by decide)]
        exact heW j (by omega) hj
      · exact absurd c_245 (by decide)
    | succ i ih =>
      intro c o5 hi hb h100 heW
      obtain ⟨p, m, a1, a2, a3, a4, a5, a6⟩ := h100 i (by omega)
      obtain ⟨p2, m2, -, -, -, -, b5, b6⟩ := heW (i + 1) (by omega) (by omega)
      -- through the layer
      have inner : ∀ (k j : Nat) (c2 : mbCt), j + k = m → (eqBut [68, 69, 72, 73, 75, 76, 80, 82, 83, 84] ct c2 ∧ MV c2 b β mk ∧ (∀ k, k ≠ 8 → k ≠ 9 → k ≠ 10 → k ≠ 11 → c2 80 k = ct 80 k) ∧ c2 80 8 = s ∧ c2 80 9 = c2 70 7 ∧ c2 80 10 = from' ∧ c2 80 11 = tone) → c2 83 = c 83 → c2 84 = c 84 → (∀ x : Int, (x < 700 * i ∨ 700 * (i + 1) ≤ x) → c2 82 x = c 82 x) → (∀ st : Int, 0 ≤ st → st < 700 → (∀ t : Nat, t < j → c 83 ((p + t : Nat) : Int) ≠ st) → c2 82 (i * 700 + st) = c 82 (i * 700 + st)) → (∀ t : Nat, t < j → c2 82 (i * 700 + c 83 ((p + t : Nat) : Int)) = eW s β mk tone (ct 81) sz (sz - i) (c 83 ((p + t : Nat) : Int))) → G (mkK YX3_weigh (d + 5) sh sh Po) 257 [some (.inr (.inr 80)), some (.inl from'), some (.inl tone), some (.inl s), some (.inl i), some (.inl ((p + j : Nat) : Int))] [] sh c2 := by
        intro k
        induction k with
        | zero =>
          intro j c2 hj hb2 e83 e84 e82 u1 u2
          have hjm : j = m := by omega
          subst hjm
          have Lc := hb2.2.1.L
          refine g_iload (q := 259) dX3_weigh_257 rfl rfl ?_
          refine g_aload_n (q := 260) dX3_weigh_259 rfl rfl ?_
          refine g_getA (q := 263) (kI := 5) fX3_22 (by first | assumption | exact S.at _ rfl) dX3_weigh_260 rfl rfl (by first | assumption | exact L.at _ _ rfl | exact LK.at (by assumption) _ _ rfl | ((repeat first | rewrite [wr_na (by decide)] | rewrite [wr_nk (by decide)] | rewrite [wa_na (by decide)]); first | assumption | exact LK.at (by assumption) _ _ rfl) | exact rfl) ?_
          refine g_iload (q := 265) dX3_weigh_263 rfl rfl ?_
          refine g_iconst (q := 266) dX3_weigh_265 rfl ?_
          refine g_iadd (q := 267) dX3_weigh_266 rfl ?_
          refine g_iaload (q := 268) (by first | assumption | exact S.at _ rfl) (by omega) (by omega) (by omega) dX3_weigh_267 rfl ?_
          rw [e84, a2]
          refine g_icmp_ge (q := 271) (tg := 310) dX3_weigh_268 (by decide) rfl (fun c_268 => ?_) (fun c_268 => ?_)
          · refine s_iinc_6_4 (q := 313) dX3_weigh_310 rfl rfl rfl ?_
            refine g_goto (q := 243) dX3_weigh_313 (by decide) ?_
            have := ih c2 (some (.inl ((p + j : Nat) : Int))) (by omega) hb2 ?_ ?_
            · exact this
            · intro j' hj'
              refine (h100 j' (by omega)).mv (fun st s0 s1 => e82 _ (by omega)) (fun k _ _ => by rw [e83]) (by rw [e84]) (by rw [e84])
            · intro j' hj1 hj2
              by_cases e : j' = i
              · subst e
                refine ⟨p, j, by rw [e84]; exact a1, by rw [e84]; exact a2, a3, by rw [e83]; exact a4, by rw [e83]; exact a5, fun st s0 s1 => ⟨fun hR => ?_, fun hR => ?_⟩⟩
                · obtain ⟨t, t1, t2⟩ := a5 st hR
                  rw [← t2]
                  exact u2 t t1
                · rw [u1 st s0 s1 (fun t ht he => hR (by rw [← he]; exact (a4 t ht).2.2))]
                  exact (a6 st s0 s1).2 hR
              · refine (heW j' (by omega) hj2).mv (fun st s0 s1 => e82 _ (by omega)) (fun k _ _ => by rw [e83]) (by rw [e84]) (by rw [e84])
          · exact absurd c_268 (Int.lt_irrefl _)
        | succ k ihk =>
          intro j c2 hj hb2 e83 e84 e82 u1 u2
          have Lc := hb2.2.1.L
          have hst := a4 j (by omega)
          generalize hstt : c 83 ((p + j : Nat) : Int) = st at hst
          have c2st : c2 83 ((p + j : Nat) : Int) = st := by rw [e83]; exact hstt
          have e81 : c2 81 = ct 81 := hb2.1 81 (by decide)
          have k8 : c2 80 8 = s := hb2.2.2.2.1
          have hvv : ∀ k ∈ brL (alwN (c2 80 8) β mk st (ct 81 i)) 48, c2 82 ((i + 1) * 700 + nxB β st (k / 8 : Nat) (k % 8 : Nat)) = eW s β mk tone (ct 81) sz (sz - (i + 1)) (nxB β st (k / 8 : Nat) (k % 8 : Nat)) := by
            intro k hk
            have hn := brL_nx hk β st
            rw [e82 _ (by omega)]
            refine (b6 _ hn.1 hn.2).1 ?_
            rw [k8] at hk
            exact ⟨st, k, hst.2.2, hk, rfl⟩
          refine g_iload (q := 259) dX3_weigh_257 rfl rfl ?_
          refine g_aload_n (q := 260) dX3_weigh_259 rfl rfl ?_
          refine g_getA (q := 263) (kI := 5) fX3_22 (by first | assumption | exact S.at _ rfl) dX3_weigh_260 rfl rfl (by first | assumption | exact L.at _ _ rfl | exact LK.at (by assumption) _ _ rfl | ((repeat first | rewrite [wr_na (by decide)] | rewrite [wr_nk (by decide)] | rewrite [wa_na (by decide)]); first | assumption | exact LK.at (by assumption) _ _ rfl) | exact rfl) ?_
          refine g_iload (q := 265) dX3_weigh_263 rfl rfl ?_
          refine g_iconst (q := 266) dX3_weigh_265 rfl ?_
          refine g_iadd (q := 267) dX3_weigh_266 rfl ?_
          refine g_iaload (q := 268) (by first | assumption | exact S.at _ rfl) (by omega) (by omega) (by omega) dX3_weigh_267 rfl ?_
          rw [e84, a2]
          refine g_icmp_ge (q := 271) (tg := 310) dX3_weigh_268 (by decide) rfl (fun c_268 => ?_) (fun c_268 => ?_)
          · exact absurd c_268 (by unfold w32; omega)
          · refine g_aload_n (q := 272) dX3_weigh_271 rfl rfl ?_
            refine g_getA (q := 275) (kI := 3) fX3_15 (by first | assumption | exact S.at _ rfl) dX3_weigh_272 rfl rfl (by first | assumption | exact L.at _ _ rfl | exact LK.at (by assumption) _ _ rfl | ((repeat first | rewrite [wr_na (by decide)] | rewrite [wr_nk (by decide)] | rewrite [wa_na (by decide)]); first | assumption | exact LK.at (by assumption) _ _ rfl) | exact rfl) ?_
            refine g_iload (q := 277) dX3_weigh_275 rfl rfl ?_
            refine g_sipush (q := 280) dX3_weigh_277 (by decide +kernel) rfl ?_
            refine g_imul (q := 281) dX3_weigh_280 rfl ?_
            refine g_aload_n (q := 282) dX3_weigh_281 rfl rfl ?_
            refine g_getA (q := 285) (kI := 4) fX3_19 (by first | assumption | exact S.at _ rfl) dX3_weigh_282 rfl rfl (by first | assumption | exact L.at _ _ rfl | exact LK.at (by assumption) _ _ rfl | ((repeat first | rewrite [wr_na (by decide)] | rewrite [wr_nk (by decide)] | rewrite [wa_na (by decide)]); first | assumption | exact LK.at (by assumption) _ _ rfl) | exact rfl) ?_
            refine g_iload (q := 287) dX3_weigh_285 rfl rfl ?_
            refine g_iaload (q := 288) (by first | assumption | exact S.at _ rfl) (by omega) (by omega) (by omega) dX3_weigh_287 rfl ?_
            rw [c2st]
            refine g_iadd (q := 289) dX3_weigh_288 rfl ?_
            refine g_aload_n (q := 290) dX3_weigh_289 rfl rfl ?_
            refine g_iload (q := 292) dX3_weigh_290 rfl rfl ?_
            refine g_aload_n (q := 293) dX3_weigh_292 rfl rfl ?_
            refine g_getA (q := 296) (kI := 4) fX3_19 (by first | assumption | exact S.at _ rfl) dX3_weigh_293 rfl rfl (by first | assumption | exact L.at _ _ rfl | exact LK.at (by assumption) _ _ rfl | ((repeat first | rewrite [wr_na (by decide)] | rewrite [wr_nk (by decide)] | rewrite [wa_na (by decide)]); first | assumption | exact LK.at (by assumption) _ _ rfl) | exact rfl) ?_
            refine g_iload (q := 298) dX3_weigh_296 rfl rfl ?_
            refine g_iaload (q := 299) (by first | assumption | exact S.at _ rfl) (by omega) (by omega) (by omega) dX3_weigh_298 rfl ?_
            rw [c2st]
            refine g_callV (q := 302) lX3_105 mX3_fewestFrom nX3_fewestFrom rfl (c_fewestFrom d sh c2 S hb2.2.1 (i := i) (by omega) (by omega) (by rw [e81]) (hto i (by omega)) (by rw [k8]; exact hs) hst.1 hst.2.1 hvv (fun x => eW_in _ _)) (by first | assumption | exact S.at _ rfl) rfl rfl shLe.rf (rmOk.mk (by omega) (by first | exact shLe.rf | assumption)) (Nat.le_of_ble_eq_true rfl) dX3_weigh_299 rfl rfl (kI fun r c3 hp => ?_)
            obtain ⟨hr, m1⟩ := hp
            have hre : r = eW s β mk tone (ct 81) sz (sz - i) st := by
              rw [hr, k8, show sz - i = (sz - (i + 1)) + 1 by omega]
              show _ = lmin _ (brL (alwN s β mk st (ct 81 ((sz - (sz - (i + 1) + 1) : Nat) : Int))) 48)
              rw [show sz - (sz - (i + 1) + 1) = i by omega]
            have hri := eW_in (s := s) (β := β) (mk := mk) (tone := tone) (tl := ct 81) (n := sz) (sz - i) st
            rw [← hre] at hri
            have f82 : c3 82 = c2 82 := m1.1 82 (by decide)
            have f83 : c3 83 = c2 83 := m1.1 83 (by decide)
            have f84 : c3 84 = c2 84 := m1.1 84 (by decide)
            have f80 : c3 80 = c2 80 := m1.1 80 (by decide)
            have f70 : c3 70 = c2 70 := m1.1 70 (by decide)
            have ew : w8 (w8 r) = r := by rw [w8_id (x := r) (by omega) (by omega), w8_id (by omega) (by omega)]
            refine g_i2b (q := 303) dX3_weigh_302 rfl ?_
            refine g_bastore (q := 304) (by first | assumption | exact S.at _ rfl) (by omega) (by omega) (by omega) dX3_weigh_303 rfl ?_
            rw [ew]
            refine s_iinc_6_5 (q := 307) dX3_weigh_304 rfl rfl rfl ?_
            refine g_goto (q := 257) dX3_weigh_307 (by decide) ?_
            obtain ⟨g1, g2, g3, g4, g5, g6, g7⟩ := hb2
            have := ihk (j + 1) (wr c3 82 (i * 700 + st) r) (by omega) ⟨(g1.tr (m1.1.mono (by decide))).wr (by decide), m1.2.x (by decide) (lkF_none rfl _) rfl, fun k a b' c' d' => by rw [wr_na (by decide), f80]; exact g3 k a b' c' d', by rw [wr_na (by decide), f80]; exact g4, by rw [wr_na (by decide), wr_na (by decide), f80, f70]; exact g5, by rw [wr_na (by decide), f80]; exact g6, by rw [wr_na (by decide), f80]; exact g7⟩ (by rw [wr_other _ _ _ _ _ (by decide), f83]; exact e83) (by rw [wr_other _ _ _ _ _ (by decide), f84]; exact e84) ?_ ?_ ?_
            · rw [show ((p + (j + 1) : Nat) : Int) = ((p + j : Nat) : Int) + 1 by omega] at this
              exact this
            · intro x hx
              rw [wr_nk (by omega), f82]
              exact e82 x hx
            · intro st' s0 s1 hno
              have h1 : st' ≠ st := fun h => hno j (by omega) (by rw [hstt, h])
              rw [wr_nk (by omega), f82]
              exact u1 st' s0 s1 (fun t ht => hno t (by omega))
            · intro t ht
              by_cases et : c 83 ((p + t : Nat) : Int) = st
              · rw [et, wr_eq, hre]
              · have htj : t < j := by
                  by_cases e2 : t = j
                  · subst e2
                    exact absurd hstt et
                  · omega
                rw [wr_nk (by omega), f82]
                exact u2 t htj
      have Lc := hb.2.1.L
      refine g_iload (q := 245) dX3_weigh_243 rfl rfl ?_
      refine g_if_lt (q := 248) (tg := 316) dX3_weigh_245 (by decide) rfl (fun c_245 => ?_) (fun c_245 => ?_)
      · exact absurd c_245 (by unfold w32; omega)
      · refine g_aload_n (q := 249) dX3_weigh_248 rfl rfl ?_
        refine g_getA (q := 252) (kI := 5) fX3_22 (by first | assumption | exact S.at _ rfl) dX3_weigh_249 rfl rfl (by first | assumption | exact L.at _ _ rfl | exact LK.at (by assumption) _ _ rfl | ((repeat first | rewrite [wr_na (by decide)] | rewrite [wr_nk (by decide)] | rewrite [wa_na (by decide)]); first | assumption | exact LK.at (by assumption) _ _ rfl) | exact rfl) ?_
        refine g_iload (q := 254) dX3_weigh_252 rfl rfl ?_
        refine g_iaload (q := 255) (by first | assumption | exact S.at _ rfl) (by omega) (by omega) (by omega) dX3_weigh_254 rfl ?_
        rw [show ((i + 1 : Nat) : Int) - 1 = (i : Int) by omega, a1]
        refine s_istore_6_5 (q := 257) dX3_weigh_255 rfl rfl rfl ?_
        have := inner m 0 c (by omega) hb rfl rfl (fun _ _ => rfl) (fun _ _ _ _ => rfl) (fun t ht => by omega)
        exact this
  -- the last layer
  have ends : ∀ (k j : Nat) (c c2 : mbCt) (p m : Nat) (o5 : Option gV), j + k = m → c 84 sz = p → c 84 (sz + 1) = ((p + m : Nat) : Int) → ((p + m : Nat) : Int) ≤ 700 * (sz + 1) → (∀ t : Nat, t < m → 0 ≤ c 83 ((p + t : Nat) : Int) ∧ c 83 ((p + t : Nat) : Int) < 700 ∧ Rch s β mk (ct 81) from' sz (c 83 ((p + t : Nat) : Int))) → (∀ st, Rch s β mk (ct 81) from' sz st → ∃ t : Nat, t < m ∧ c 83 ((p + t : Nat) : Int) = st) → (∀ st : Int, 0 ≤ st → st < 700 → (Rch s β mk (ct 81) from' sz st → c 82 (sz * 700 + st) = 100) ∧ (¬ Rch s β mk (ct 81) from' sz st → c 82 (sz * 700 + st) = -1)) → (∀ j : Nat, j < sz → LA c (Rch s β mk (ct 81) from' j) j (fun _ => 100)) → (eqBut [68, 69, 72, 73, 75, 76, 80, 82, 83, 84] ct c2 ∧ MV c2 b β mk ∧ (∀ k, k ≠ 8 → k ≠ 9 → k ≠ 10 → k ≠ 11 → c2 80 k = ct 80 k) ∧ c2 80 8 = s ∧ c2 80 9 = c2 70 7 ∧ c2 80 10 = from' ∧ c2 80 11 = tone) → c2 83 = c 83 → c2 84 = c 84 → (∀ x : Int, (x < 700 * sz ∨ 700 * (sz + 1) ≤ x) → c2 82 x = c 82 x) → (∀ st : Int, 0 ≤ st → st < 700 → (∀ t : Nat, t < j → c 83 ((p + t : Nat) : Int) ≠ st) → c2 82 (sz * 700 + st) = c 82 (sz * 700 + st)) → (∀ t : Nat, t < j → c2 82 (sz * 700 + c 83 ((p + t : Nat) : Int)) = eW s β mk tone (ct 81) sz 0 (c 83 ((p + t : Nat) : Int))) → G (mkK YX3_weigh (d + 5) sh sh Po) 170 [some (.inr (.inr 80)), some (.inl from'), some (.inl tone), some (.inl s), some (.inl ((p + j : Nat) : Int)), o5] [] sh c2 := by
    intro k
    induction k with
    | zero =>
      intro j c c2 p m o5 hj a1 a2 a3 a4 a5 a6 hLA hb2 e83 e84 e82 u1 u2
      have hjm : j = m := by omega
      subst hjm
      have Lc := hb2.2.1.L
      have l2 : c2 80 2 = sz := by rw [hb2.2.2.1 2 (by decide) (by decide) (by decide) (by decide)]; exact hsz
      refine g_iload (q := 172) dX3_weigh_170 rfl rfl ?_
      refine g_aload_n (q := 173) dX3_weigh_172 rfl rfl ?_
      refine g_getA (q := 176) (kI := 5) fX3_22 (by first | assumption | exact S.at _ rfl) dX3_weigh_173 rfl rfl (by first | assumption | exact L.at _ _ rfl | exact LK.at (by assumption) _ _ rfl | ((repeat first | rewrite [wr_na (by decide)] | rewrite [wr_nk (by decide)] | rewrite [wa_na (by decide)]); first | assumption | exact LK.at (by assumption) _ _ rfl) | exact rfl) ?_
      refine g_aload_n (q := 177) dX3_weigh_176 rfl rfl ?_
      refine g_getI (q := 180) (kI := 2) fX3_40 (by first | assumption | exact S.at _ rfl) dX3_weigh_177 rfl rfl ?_
      rw [l2]
      refine g_iconst (q := 181) dX3_weigh_180 rfl ?_
      refine g_iadd (q := 182) dX3_weigh_181 rfl ?_
      refine g_iaload (q := 183) (by first | assumption | exact S.at _ rfl) (by omega) (by omega) (by omega) dX3_weigh_182 rfl ?_
      rw [e84, a2]
      refine g_icmp_ge (q := 186) (tg := 235) dX3_weigh_183 (by decide) rfl (fun c_183 => ?_) (fun c_183 => ?_)
      · refine g_aload_n (q := 236) dX3_weigh_235 rfl rfl ?_
        refine g_getI (q := 239) (kI := 2) fX3_40 (by first | assumption | exact S.at _ rfl) dX3_weigh_236 rfl rfl ?_
        rw [l2]
        refine g_iconst (q := 240) dX3_weigh_239 rfl ?_
        refine g_isub (q := 241) dX3_weigh_240 rfl ?_
        refine s_istore_6_4 (q := 243) dX3_weigh_241 rfl rfl rfl ?_
        refine backw sz c2 o5 (Nat.le_refl _) hb2 ?_ ?_
        · intro j' hj'
          exact (hLA j' hj').mv (fun st s0 s1 => e82 _ (by omega)) (fun k _ _ => by rw [e83]) (by rw [e84]) (by rw [e84])
        · intro j' h1 h2
          have e : j' = sz := by omega
          subst e
          refine ⟨p, j, by rw [e84]; exact a1, by rw [e84]; exact a2, a3, by rw [e83]; exact a4, by rw [e83]; exact a5, fun st s0 s1 => ⟨fun hR => ?_, fun hR => ?_⟩⟩
          · obtain ⟨t, t1, t2⟩ := a5 st hR
            rw [← t2, Nat.sub_self]
            exact u2 t t1
          · rw [u1 st s0 s1 (fun t ht he => hR (by rw [← he]; exact (a4 t ht).2.2))]
            exact (a6 st s0 s1).2 hR
      · exact absurd c_183 (Int.lt_irrefl _)
    | succ k ih =>
      intro j c c2 p m o5 hj a1 a2 a3 a4 a5 a6 hLA hb2 e83 e84 e82 u1 u2
      have Lc := hb2.2.1.L
      have l2 : c2 80 2 = sz := by rw [hb2.2.2.1 2 (by decide) (by decide) (by decide) (by decide)]; exact hsz
      have l11 : c2 80 11 = tone := hb2.2.2.2.2.2.2
      have hst := a4 j (by omega)
      generalize hstt : c 83 ((p + j : Nat) : Int) = st at hst
      have c2st : c2 83 ((p + j : Nat) : Int) = st := by rw [e83]; exact hstt
      refine g_iload (q := 172) dX3_weigh_170 rfl rfl ?_
      refine g_aload_n (q := 173) dX3_weigh_172 rfl rfl ?_
      refine g_getA (q := 176) (kI := 5) fX3_22 (by first | assumption | exact S.at _ rfl) dX3_weigh_173 rfl rfl (by first | assumption | exact L.at _ _ rfl | exact LK.at (by assumption) _ _ rfl | ((repeat first | rewrite [wr_na (by decide)] | rewrite [wr_nk (by decide)] | rewrite [wa_na (by decide)]); first | assumption | exact LK.at (by assumption) _ _ rfl) | exact rfl) ?_
      refine g_aload_n (q := 177) dX3_weigh_176 rfl rfl ?_
      refine g_getI (q := 180) (kI := 2) fX3_40 (by first | assumption | exact S.at _ rfl) dX3_weigh_177 rfl rfl ?_
      rw [l2]
      refine g_iconst (q := 181) dX3_weigh_180 rfl ?_
      refine g_iadd (q := 182) dX3_weigh_181 rfl ?_
      refine g_iaload (q := 183) (by first | assumption | exact S.at _ rfl) (by omega) (by omega) (by omega) dX3_weigh_182 rfl ?_
      rw [e84, a2]
      refine g_icmp_ge (q := 186) (tg := 235) dX3_weigh_183 (by decide) rfl (fun c_183 => ?_) (fun c_183 => ?_)
      · exact absurd c_183 (by unfold w32; omega)
      · refine g_aload_n (q := 187) dX3_weigh_186 rfl rfl ?_
        refine g_getO (q := 190) (kI := 0) fX3_36 (by first | assumption | exact S.at _ rfl) dX3_weigh_187 rfl rfl (by first | assumption | exact L.at _ _ rfl | exact LK.at (by assumption) _ _ rfl | ((repeat first | rewrite [wr_na (by decide)] | rewrite [wr_nk (by decide)] | rewrite [wa_na (by decide)]); first | assumption | exact LK.at (by assumption) _ _ rfl) | exact rfl) ?_
        refine g_aload_n (q := 191) dX3_weigh_190 rfl rfl ?_
        refine g_getA (q := 194) (kI := 4) fX3_19 (by first | assumption | exact S.at _ rfl) dX3_weigh_191 rfl rfl (by first | assumption | exact L.at _ _ rfl | exact LK.at (by assumption) _ _ rfl | ((repeat first | rewrite [wr_na (by decide)] | rewrite [wr_nk (by decide)] | rewrite [wa_na (by decide)]); first | assumption | exact LK.at (by assumption) _ _ rfl) | exact rfl) ?_
        refine g_iload (q := 196) dX3_weigh_194 rfl rfl ?_
        refine g_iaload (q := 197) (by first | assumption | exact S.at _ rfl) (by omega) (by omega) (by omega) dX3_weigh_196 rfl ?_
        rw [c2st]
        refine g_aload_n (q := 198) dX3_weigh_197 rfl rfl ?_
        refine g_getI (q := 201) (kI := 11) fX3_93 (by first | assumption | exact S.at _ rfl) dX3_weigh_198 rfl rfl ?_
        rw [l11]
        refine g_callV (q := 204) lX3_80 mX4_isEnd nX4_isEnd rfl (m_isEnd (d + 1) sh c2 S hb2.2.1 hst.1 hst.2.1 t0 t1) (by first | assumption | exact S.at _ rfl) rfl rfl shLe.rf (rmOk.mk (by omega) (by first | exact shLe.rf | assumption)) (Nat.le_of_ble_eq_true rfl) dX3_weigh_201 rfl rfl (kI fun r c3 hp => ?_)
        obtain ⟨rfl, m1⟩ := hp
        have L3 := m1.2.L
        have f82 : c3 82 = c2 82 := m1.1 82 (by decide)
        have f83 : c3 83 = c2 83 := m1.1 83 (by decide)
        have f84 : c3 84 = c2 84 := m1.1 84 (by decide)
        have f80 : c3 80 = c2 80 := m1.1 80 (by decide)
        have f70 : c3 70 = c2 70 := m1.1 70 (by decide)
        obtain ⟨g1, g2, g3, g4, g5, g6, g7⟩ := id hb2
        have go : ∀ c4 : mbCt, (c4 = c3 ∧ ¬ enB β st tone = true) ∨ (c4 = wr c3 82 (sz * 700 + st) 0 ∧ enB β st tone = true) → G (mkK YX3_weigh (d + 5) sh sh Po) 229 [some (.inr (.inr 80)), some (.inl from'), some (.inl tone), some (.inl s), some (.inl ((p + j : Nat) : Int)), o5] [] sh c4 := by
          intro c4 hc4
          have x82 : ∀ x : Int, x ≠ sz * 700 + st → c4 82 x = c2 82 x := by
            intro x hx
            rcases hc4 with ⟨rfl, -⟩ | ⟨rfl, -⟩
            · rw [f82]
            · rw [wr_nk hx, f82]
          have xx : ∀ y : Int, y ≠ 82 → c4 y = c3 y := by
            intro y hy
            rcases hc4 with ⟨rfl, -⟩ | ⟨rfl, -⟩
            · rfl
            · exact wr_other _ _ _ _ _ hy
          have xM : MV c4 b β mk := by
            rcases hc4 with ⟨rfl, -⟩ | ⟨rfl, -⟩
            · exact m1.2
            · exact m1.2.x (by decide) (lkF_none rfl _) rfl
          have xe : eqBut [68, 69, 72, 73, 75, 76, 80, 82, 83, 84] ct c4 := by
            rcases hc4 with ⟨rfl, -⟩ | ⟨rfl, -⟩
            · exact g1.tr (m1.1.mono (by decide))
            · exact (g1.tr (m1.1.mono (by decide))).wr (by decide)
          have xv : (∀ t : Nat, t < j → c 83 ((p + t : Nat) : Int) ≠ st) → c4 82 (sz * 700 + st) = eW s β mk tone (ct 81) sz 0 st := by
            intro hno
            rcases hc4 with ⟨rfl, hn⟩ | ⟨rfl, hn⟩
            · rw [f82, u1 st hst.1 hst.2.1 hno, (a6 st hst.1 hst.2.1).1 hst.2.2]
              unfold eW
              rw [if_neg hn]
            · rw [wr_eq]
              unfold eW
              rw [if_pos hn]
          have xv2 : c4 82 (sz * 700 + st) = eW s β mk tone (ct 81) sz 0 st := by
            by_cases hno : ∀ t : Nat, t < j → c 83 ((p + t : Nat) : Int) ≠ st
            · exact xv hno
            · have : ∃ t : Nat, t < j ∧ c 83 ((p + t : Nat) : Int) = st := by
                apply Classical.byContradiction
                intro h
                exact hno (fun t ht he => h ⟨t, ht, he⟩)
              obtain ⟨t, t1, t2⟩ := this
              have h2 := u2 t t1
              rw [t2] at h2
              rcases hc4 with ⟨rfl, hn⟩ | ⟨rfl, hn⟩
              · rw [f82]
                exact h2
              · rw [wr_eq]
                unfold eW
                rw [if_pos hn]
          refine s_iinc_6_4 (q := 232) dX3_weigh_229 rfl rfl rfl ?_
          refine g_goto (q := 170) dX3_weigh_232 (by decide) ?_
          have := ih (j + 1) c c4 p m o5 (by omega) a1 a2 a3 a4 a5 a6 hLA ⟨xe, xM, fun k a b' c' d' => by rw [xx 80 (by decide), f80]; exact g3 k a b' c' d', by rw [xx 80 (by decide), f80]; exact g4, by rw [xx 80 (by decide), xx 70 (by decide), f80, f70]; exact g5, by rw [xx 80 (by decide), f80]; exact g6, by rw [xx 80 (by decide), f80]; exact g7⟩ (by rw [xx 83 (by decide), f83]; exact e83) (by rw [xx 84 (by decide), f84]; exact e84) ?_ ?_ ?_
          · rw [show ((p + (j + 1) : Nat) : Int) = ((p + j : Nat) : Int) + 1 by omega] at this
            exact this
          · intro x hx
            rw [x82 x (by omega)]
            exact e82 x hx
          · intro st' s0 s1 hno
            have h1 : st' ≠ st := fun h => hno j (by omega) (by rw [hstt, h])
            rw [x82 _ (by omega)]
            exact u1 st' s0 s1 (fun t ht => hno t (by omega))
          · intro t ht
            by_cases et : c 83 ((p + t : Nat) : Int) = st
            · rw [et]
              exact xv2
            · have htj : t < j := by
                by_cases e2 : t = j
                · subst e2
                  exact absurd hstt et
                · omega
              rw [x82 _ (by omega)]
              exact u2 t htj
        refine g_if_eq (q := 207) (tg := 229) dX3_weigh_204 (by decide) rfl (fun c_204 => ?_) (fun c_204 => ?_)
        · refine go c3 (Or.inl ⟨rfl, fun h => ?_⟩)
          rw [← b01_t h] at c_204
          exact absurd c_204 (by decide)
        · have hf : enB β st tone = true := by
            by_cases h : enB β st tone = true
            · exact h
            · rw [← b01_f h] at c_204
              exact absurd rfl c_204
          have k2 : c3 80 2 = sz := by rw [f80]; exact l2
          have c3st : c3 83 ((p + j : Nat) : Int) = st := by rw [f83]; exact c2st
          refine g_aload_n (q := 208) dX3_weigh_207 rfl rfl ?_
          refine g_getA (q := 211) (kI := 3) fX3_15 (by first | assumption | exact S.at _ rfl) dX3_weigh_208 rfl rfl (by first | assumption | exact L.at _ _ rfl | exact LK.at (by assumption) _ _ rfl | ((repeat first | rewrite [wr_na (by decide)] | rewrite [wr_nk (by decide)] | rewrite [wa_na (by decide)]); first | assumption | exact LK.at (by assumption) _ _ rfl) | exact rfl) ?_
          refine g_aload_n (q := 212) dX3_weigh_211 rfl rfl ?_
          refine g_getI (q := 215) (kI := 2) fX3_40 (by first | assumption | exact S.at _ rfl) dX3_weigh_212 rfl rfl ?_
          rw [k2]
          refine g_sipush (q := 218) dX3_weigh_215 (by decide +kernel) rfl ?_
          refine g_imul (q := 219) dX3_weigh_218 rfl ?_
          refine g_aload_n (q := 220) dX3_weigh_219 rfl rfl ?_
          refine g_getA (q := 223) (kI := 4) fX3_19 (by first | assumption | exact S.at _ rfl) dX3_weigh_220 rfl rfl (by first | assumption | exact L.at _ _ rfl | exact LK.at (by assumption) _ _ rfl | ((repeat first | rewrite [wr_na (by decide)] | rewrite [wr_nk (by decide)] | rewrite [wa_na (by decide)]); first | assumption | exact LK.at (by assumption) _ _ rfl) | exact rfl) ?_
          refine g_iload (q := 225) dX3_weigh_223 rfl rfl ?_
          refine g_iaload (q := 226) (by first | assumption | exact S.at _ rfl) (by omega) (by omega) (by omega) dX3_weigh_225 rfl ?_
          rw [c3st]
          refine g_iadd (q := 227) dX3_weigh_226 rfl ?_
          refine g_iconst (q := 228) dX3_weigh_227 rfl ?_
          refine g_bastore (q := 229) (by first | assumption | exact S.at _ rfl) (by omega) (by omega) (by omega) dX3_weigh_228 rfl ?_
          exact go _ (Or.inr ⟨rfl, hf⟩)
  -- forwards
  have fwd : ∀ (k i : Nat) (c : mbCt), i + k = sz → (eqBut [68, 69, 72, 73, 75, 76, 80, 82, 83, 84] ct c ∧ MV c b β mk ∧ (∀ k, k ≠ 8 → k ≠ 9 → k ≠ 10 → k ≠ 11 → c 80 k = ct 80 k) ∧ c 80 8 = s ∧ c 80 9 = c 70 7 ∧ c 80 10 = from' ∧ c 80 11 = tone) → WL c (Rch s β mk (ct 81) from') sz i → G (mkK YX3_weigh (d + 5) sh sh Po) 138 [some (.inr (.inr 80)), some (.inl from'), some (.inl tone), some (.inl s), some (.inl i), none] [] sh c := by
    intro k
    induction k with
    | zero =>
      intro i c hi hb ⟨w1, w2, w3⟩
      have e : i = sz := by omega
      subst e
      have Lc := hb.2.1.L
      have l2 : c 80 2 = i := by rw [hb.2.2.1 2 (by decide) (by decide) (by decide) (by decide)]; exact hsz
      obtain ⟨p, m, a1, a2, a3, a4, a5, a6⟩ := w1 i (Nat.le_refl _)
      refine g_iload (q := 140) dX3_weigh_138 rfl rfl ?_
      refine g_aload_n (q := 141) dX3_weigh_140 rfl rfl ?_
      refine g_getI (q := 144) (kI := 2) fX3_40 (by first | assumption | exact S.at _ rfl) dX3_weigh_141 rfl rfl ?_
      rw [l2]
      refine g_icmp_ge (q := 147) (tg := 159) dX3_weigh_144 (by decide) rfl (fun c_144 => ?_) (fun c_144 => ?_)
      · refine g_aload_n (q := 160) dX3_weigh_159 rfl rfl ?_
        refine g_getA (q := 163) (kI := 5) fX3_22 (by first | assumption | exact S.at _ rfl) dX3_weigh_160 rfl rfl (by first | assumption | exact L.at _ _ rfl | exact LK.at (by assumption) _ _ rfl | ((repeat first | rewrite [wr_na (by decide)] | rewrite [wr_nk (by decide)] | rewrite [wa_na (by decide)]); first | assumption | exact LK.at (by assumption) _ _ rfl) | exact rfl) ?_
        refine g_aload_n (q := 164) dX3_weigh_163 rfl rfl ?_
        refine g_getI (q := 167) (kI := 2) fX3_40 (by first | assumption | exact S.at _ rfl) dX3_weigh_164 rfl rfl ?_
        rw [l2]
        refine g_iaload (q := 168) (by first | assumption | exact S.at _ rfl) (by omega) (by omega) (by omega) dX3_weigh_167 rfl ?_
        rw [a1]
        refine s_istore_6_4 (q := 170) dX3_weigh_168 rfl rfl rfl ?_
        have := ends m 0 c c p m none (by omega) a1 a2 a3 a4 a5 a6 (fun j hj => w1 j (by omega)) hb rfl rfl (fun _ _ => rfl) (fun _ _ _ _ => rfl) (fun t ht => by omega)
        exact this
      · exact absurd c_144 (Int.lt_irrefl _)
    | succ k ih =>
      intro i c hi hb ⟨w1, w2, w3⟩
      have Lc := hb.2.1.L
      have l2 : c 80 2 = sz := by rw [hb.2.2.1 2 (by decide) (by decide) (by decide) (by decide)]; exact hsz
      obtain ⟨g1, g2, g3, g4, g5, g6, g7⟩ := id hb
      have e81 : c 81 = ct 81 := g1 81 (by decide)
      obtain ⟨p, m, a1, a2, a3, a4, a5, a6⟩ := w1 i (Nat.le_refl _)
      refine g_iload (q := 140) dX3_weigh_138 rfl rfl ?_
      refine g_aload_n (q := 141) dX3_weigh_140 rfl rfl ?_
      refine g_getI (q := 144) (kI := 2) fX3_40 (by first | assumption | exact S.at _ rfl) dX3_weigh_141 rfl rfl ?_
      rw [l2]
      refine g_icmp_ge (q := 147) (tg := 159) dX3_weigh_144 (by decide) rfl (fun c_144 => ?_) (fun c_144 => ?_)
      · exact absurd c_144 (by unfold w32; omega)
      · refine g_aload_n (q := 148) dX3_weigh_147 rfl rfl ?_
        refine g_iload (q := 150) dX3_weigh_148 rfl rfl ?_
        refine g_callV (q := 153) lX3_102 mX3_reachLayer nX3_reachLayer rfl (c_reachLayer d sh c S g2 (i := i) (by omega) (by omega) (by rw [e81]) (hto i (by omega)) (by rw [g4]; exact hs) a1 a2 rfl a3 (fun j hj => ⟨(a4 j hj).1, (a4 j hj).2.1⟩) (fun st s0 s1 => w3 (i + 1) (by omega) (by omega) st s0 s1)) (by first | assumption | exact S.at _ rfl) rfl rfl shLe.rf (rmOk.mk (by omega) (by first | exact shLe.rf | assumption)) (Nat.le_of_ble_eq_true rfl) dX3_weigh_150 rfl rfl (kN fun c2 hp => ?_)
        obtain ⟨n, q1, q2, q3, q4, q5, q6, q7, q8, q9, q10⟩ := hp
        rw [g4] at q8 q9 q10
        have f80 : c2 80 = c 80 := q1 80 (by decide)
        have f70 : c2 70 = c 70 := q1 70 (by decide)
        have dR : ∀ st, (∃ (j k : Nat), j < m ∧ k ∈ brL (alwN s β mk (c 83 ((p + j : Nat) : Int)) (ct 81 i)) 48 ∧ st = nxB β (c 83 ((p + j : Nat) : Int)) (k / 8 : Nat) (k % 8 : Nat)) ↔ Rch s β mk (ct 81) from' (i + 1) st := by
          intro st
          constructor
          · rintro ⟨j, k, b1, b2, b3⟩
            exact ⟨_, k, (a4 j b1).2.2, b2, b3⟩
          · rintro ⟨x, k, b1, b2, b3⟩
            obtain ⟨j, j1, j2⟩ := a5 x b1
            exact ⟨j, k, j1, by rw [j2]; exact b2, by rw [j2]; exact b3⟩
        refine s_iinc_6_4 (q := 156) dX3_weigh_153 rfl rfl rfl ?_
        refine g_goto (q := 138) dX3_weigh_156 (by decide) ?_
        have := ih (i + 1) c2 (by omega) ⟨g1.tr (q1.mono (by decide)), q2, fun k a b' c' d' => by rw [f80]; exact g3 k a b' c' d', by rw [f80]; exact g4, by rw [f80, f70]; exact g5, by rw [f80]; exact g6, by rw [f80]; exact g7⟩ ⟨?_, ?_, ?_⟩
        · rw [Int.natCast_succ] at this
          exact this
        · intro j hj
          by_cases e : j = i + 1
          · subst e
            refine ⟨p + m, n, ?_, ?_, ?_, fun t ht => ?_, fun st hR => ?_, fun st s0 s1 => ?_⟩
            · rw [Int.natCast_succ, q7 _ (by omega)]
              exact a2
            · rw [show ((i + 1 : Nat) : Int) + 1 = i + 2 by omega]
              exact q6
            · omega
            · have := q8 t ht
              exact ⟨this.1, this.2.1, (dR _).mp this.2.2⟩
            · exact q9 st ((dR st).mpr hR)
            · rw [Int.natCast_succ]
              exact ⟨fun hR => (q10 st s0 s1).1 ((dR st).mpr hR), fun hR => (q10 st s0 s1).2 (fun h => hR ((dR st).mp h))⟩
          · have hle := w2 j (by omega)
            refine (w1 j (by omega)).mv (fun st s0 s1 => q4 _ (by omega)) (fun k hk0 hk => ?_) (q7 _ (by omega)) (q7 _ (by omega))
            have := q3 k.toNat (by omega)
            rw [show ((k.toNat : Nat) : Int) = k by omega] at this
            exact this
        · intro j hj
          by_cases e : j = i + 1
          · subst e
            exact Int.le_refl _
          · rw [q7 _ (by omega), Int.natCast_succ, show (i : Int) + 1 + 1 = i + 2 by omega, q6]
            have := w2 j (by omega)
            omega
        · intro j h1 h2 st s0 s1
          rw [q4 _ (by omega)]
          exact w3 j (by omega) h2 st s0 s1
  -- the beginning
  have begin' : G (mkK YX3_weigh (d + 5) sh sh Po) 66 [some (.inr (.inr 80)), some (.inl from'), some (.inl tone), some (.inl s), none, none] [] sh ct := by
    have l3 : ∀ x y z w, wr (wr (wr (wr ct 80 9 x) 80 10 y) 80 11 z) 80 8 w 80 3 = 82 := fun x y z w => by rw [wr_nk (by decide), wr_nk (by decide), wr_nk (by decide), wr_nk (by decide)]; exact L.at _ _ rfl
    refine g_aload_n (q := 67) dX3_weigh_66 rfl rfl ?_
    refine g_aload_n (q := 68) dX3_weigh_67 rfl rfl ?_
    refine g_getO (q := 71) (kI := 0) fX3_36 (by first | assumption | exact S.at _ rfl) dX3_weigh_68 rfl rfl (by first | assumption | exact L.at _ _ rfl | exact LK.at (by assumption) _ _ rfl | ((repeat first | rewrite [wr_na (by decide)] | rewrite [wr_nk (by decide)] | rewrite [wa_na (by decide)]); first | assumption | exact LK.at (by assumption) _ _ rfl) | exact rfl) ?_
    refine g_getI (q := 74) (kI := 7) fX3_89 (by first | assumption | exact S.at _ rfl) dX3_weigh_71 rfl rfl ?_
    refine g_putI (q := 77) (kI := 9) fX3_32 (by first | assumption | exact S.at _ rfl) dX3_weigh_74 rfl rfl ?_
    refine g_aload_n (q := 78) dX3_weigh_77 rfl rfl ?_
    refine g_iload_n (q := 79) dX3_weigh_78 rfl rfl ?_
    refine g_putI (q := 82) (kI := 10) fX3_90 (by first | assumption | exact S.at _ rfl) dX3_weigh_79 rfl rfl ?_
    refine g_aload_n (q := 83) dX3_weigh_82 rfl rfl ?_
    refine g_iload_n (q := 84) dX3_weigh_83 rfl rfl ?_
    refine g_putI (q := 87) (kI := 11) fX3_93 (by first | assumption | exact S.at _ rfl) dX3_weigh_84 rfl rfl ?_
    refine g_aload_n (q := 88) dX3_weigh_87 rfl rfl ?_
    refine g_iload_n (q := 89) dX3_weigh_88 rfl rfl ?_
    refine g_putZ (q := 92) (kI := 8) fX3_68 (by first | assumption | exact S.at _ rfl) (by first | exact Or.inl rfl | exact Or.inr rfl | assumption) dX3_weigh_89 rfl rfl ?_
    refine g_aload_n (q := 93) dX3_weigh_92 rfl rfl ?_
    refine g_getA (q := 96) (kI := 3) fX3_15 (by first | assumption | exact S.at _ rfl) dX3_weigh_93 rfl rfl (by first | assumption | exact L.at _ _ rfl | exact LK.at (by assumption) _ _ rfl | ((repeat first | rewrite [wr_na (by decide)] | rewrite [wr_nk (by decide)] | rewrite [wa_na (by decide)]); first | assumption | exact LK.at (by assumption) _ _ rfl) | exact rfl) ?_
    refine g_iconst (q := 97) dX3_weigh_96 rfl ?_
    generalize hc1 : wr (wr (wr (wr ct 80 9 (ct 70 7)) 80 10 from') 80 11 tone) 80 8 s = c1
    have M1 : MV c1 b β mk := by
      rw [← hc1]
      exact (((M.x (a := 80) (k := 9) (by decide) rfl rfl).x (a := 80) (k := 10) (by decide) rfl rfl).x (a := 80) (k := 11) (by decide) rfl rfl).x (a := 80) (k := 8) (by decide) rfl rfl
    have k1 : ∀ k, c1 80 k = if k = 8 then s else if k = 11 then tone else if k = 10 then from' else if k = 9 then ct 70 7 else ct 80 k := by
      intro k
      rw [← hc1]
      unfold wr
      grind
    have kx : ∀ x : Int, x ≠ 80 → c1 x = ct x := fun x hx => by rw [← hc1, wr_other _ _ _ _ _ hx, wr_other _ _ _ _ _ hx, wr_other _ _ _ _ _ hx, wr_other _ _ _ _ _ hx]
    have e1 : eqBut [80] ct c1 := fun x hx => kx x (by simpa using hx)
    have L1 := M1.L
    refine g_callS (q := 100) lX3_96 mJ7_fill_031fb sJ7_fill_031fb rfl (c_fillB (d + 4) sh c1 s82 (by decide) rfl) shLe.rf (rmOk.mk (by omega) (by first | exact shLe.rf | assumption)) (Nat.le_of_ble_eq_true rfl) dX3_weigh_97 rfl rfl (kN fun c2 hp => ?_)
    have M2 : MV c2 b β mk := M1.far (A := [82]) (by rw [hp]; exact eqBut.rf.wa (by decide)) rfl
    have L2 := M2.L
    have j80 : c2 80 = c1 80 := by rw [hp]; exact wa_other _ _ _ _ (by decide)
    have l10 : c2 80 10 = from' := by rw [j80, k1]; rfl
    refine g_aload_n (q := 101) dX3_weigh_100 rfl rfl ?_
    refine g_getA (q := 104) (kI := 3) fX3_15 (by first | assumption | exact S.at _ rfl) dX3_weigh_101 rfl rfl (by first | assumption | exact L.at _ _ rfl | exact LK.at (by assumption) _ _ rfl | ((repeat first | rewrite [wr_na (by decide)] | rewrite [wr_nk (by decide)] | rewrite [wa_na (by decide)]); first | assumption | exact LK.at (by assumption) _ _ rfl) | exact rfl) ?_
    refine g_aload_n (q := 105) dX3_weigh_104 rfl rfl ?_
    refine g_getI (q := 108) (kI := 10) fX3_90 (by first | assumption | exact S.at _ rfl) dX3_weigh_105 rfl rfl ?_
    rw [l10]
    refine g_bipush (q := 110) dX3_weigh_108 (by decide +kernel) rfl ?_
    refine g_bastore (q := 111) (by first | assumption | exact S.at _ rfl) (by omega) (by omega) (by omega) dX3_weigh_110 rfl ?_
    refine g_aload_n (q := 112) dX3_weigh_111 rfl rfl ?_
    refine g_getA (q := 115) (kI := 4) fX3_19 (by first | assumption | exact S.at _ rfl) dX3_weigh_112 rfl rfl (by first | assumption | exact L.at _ _ rfl | exact LK.at (by assumption) _ _ rfl | ((repeat first | rewrite [wr_na (by decide)] | rewrite [wr_nk (by decide)] | rewrite [wa_na (by decide)]); first | assumption | exact LK.at (by assumption) _ _ rfl) | exact rfl) ?_
    refine g_iconst (q := 116) dX3_weigh_115 rfl ?_
    have m10 : ∀ k v, wr c2 82 k v 80 10 = from' := fun k v => by rw [wr_na (by decide)]; exact l10
    refine g_aload_n (q := 117) dX3_weigh_116 rfl rfl ?_
    refine g_getI (q := 120) (kI := 10) fX3_90 (by first | assumption | exact S.at _ rfl) dX3_weigh_117 rfl rfl ?_
    rw [m10]
    refine g_iastore (q := 121) (by first | assumption | exact S.at _ rfl) (by omega) (by omega) (by omega) dX3_weigh_120 rfl ?_
    refine g_aload_n (q := 122) dX3_weigh_121 rfl rfl ?_
    refine g_getA (q := 125) (kI := 5) fX3_22 (by first | assumption | exact S.at _ rfl) dX3_weigh_122 rfl rfl (by first | assumption | exact L.at _ _ rfl | exact LK.at (by assumption) _ _ rfl | ((repeat first | rewrite [wr_na (by decide)] | rewrite [wr_nk (by decide)] | rewrite [wa_na (by decide)]); first | assumption | exact LK.at (by assumption) _ _ rfl) | exact rfl) ?_
    refine g_iconst (q := 126) dX3_weigh_125 rfl ?_
    refine g_iconst (q := 127) dX3_weigh_126 rfl ?_
    refine g_iastore (q := 128) (by first | assumption | exact S.at _ rfl) (by omega) (by omega) (by omega) dX3_weigh_127 rfl ?_
    refine g_aload_n (q := 129) dX3_weigh_128 rfl rfl ?_
    refine g_getA (q := 132) (kI := 5) fX3_22 (by first | assumption | exact S.at _ rfl) dX3_weigh_129 rfl rfl (by first | assumption | exact L.at _ _ rfl | exact LK.at (by assumption) _ _ rfl | ((repeat first | rewrite [wr_na (by decide)] | rewrite [wr_nk (by decide)] | rewrite [wa_na (by decide)]); first | assumption | exact LK.at (by assumption) _ _ rfl) | exact rfl) ?_
    refine g_iconst (q := 133) dX3_weigh_132 rfl ?_
    refine g_iconst (q := 134) dX3_weigh_133 rfl ?_
    refine g_iastore (q := 135) (by first | assumption | exact S.at _ rfl) (by omega) (by omega) (by omega) dX3_weigh_134 rfl ?_
    refine g_iconst (q := 136) dX3_weigh_135 rfl ?_
    refine s_istore_6_4 (q := 138) dX3_weigh_136 rfl rfl rfl ?_
    generalize hc3 : wr (wr (wr (wr c2 82 from' (w8 100)) 83 0 from') 84 0 0) 84 1 1 = c3
    have M3 : MV c3 b β mk := by
      rw [← hc3]
      exact (((M2.x (a := 82) (by decide) (lkF_none rfl _) rfl).x (a := 83) (by decide) (lkF_none rfl _) rfl).x (a := 84) (by decide) (lkF_none rfl _) rfl).x (a := 84) (by decide) (lkF_none rfl _) rfl
    have n80 : c3 80 = c1 80 := by rw [← hc3, wr_other _ _ _ _ _ (by decide), wr_other _ _ _ _ _ (by decide), wr_other _ _ _ _ _ (by decide), wr_other _ _ _ _ _ (by decide), j80]
    have n70 : c3 70 = ct 70 := by rw [← hc3, wr_other _ _ _ _ _ (by decide), wr_other _ _ _ _ _ (by decide), wr_other _ _ _ _ _ (by decide), wr_other _ _ _ _ _ (by decide), hp, wa_other _ _ _ _ (by decide), kx 70 (by decide)]
    have n82 : ∀ x : Int, 0 ≤ x → x < 9100 → c3 82 x = if x = from' then 100 else -1 := by
      intro x x0 x1
      rw [← hc3, wr_na (by decide), wr_na (by decide), wr_na (by decide)]
      by_cases e : x = from'
      · rw [e, wr_eq, if_pos rfl]
        rfl
      · rw [wr_nk e, hp, wa_eq, if_neg e]
        unfold flF
        rw [if_pos (by omega)]
    have n83 : c3 83 0 = from' := by rw [← hc3, wr_na (by decide), wr_na (by decide), wr_eq]
    have n840 : c3 84 0 = 0 := by rw [← hc3, wr_nk (by decide), wr_eq]
    have n841 : c3 84 1 = 1 := by rw [← hc3, wr_eq]
    refine fwd sz 0 c3 (by omega) ⟨?_, M3, fun k a b' c' d' => ?_, ?_, ?_, ?_, ?_⟩ ⟨?_, ?_, ?_⟩
    · rw [← hc3]
      have e2 : eqBut [68, 69, 72, 73, 75, 76, 80, 82, 83, 84] ct c2 := by
        rw [hp]
        exact (e1.mono (by decide)).wa (by decide)
      exact (((e2.wr (by decide)).wr (by decide)).wr (by decide)).wr (by decide)
    · rw [n80, k1, if_neg a, if_neg d', if_neg c', if_neg b']
    · rw [n80, k1]
      rfl
    · rw [n80, k1, n70]
      rfl
    · rw [n80, k1]
      rfl
    · rw [n80, k1]
      rfl
    · intro j hj
      have : j = 0 := by omega
      subst this
      refine ⟨0, 1, n840, n841, by decide, fun t ht => ?_, fun st hR => ⟨0, by omega, ?_⟩, fun st s0 s1 => ?_⟩
      · have : t = 0 := by omega
        subst this
        show 0 ≤ c3 83 0 ∧ c3 83 0 < 700 ∧ c3 83 0 = from'
        rw [n83]
        exact ⟨f0, f1, rfl⟩
      · show c3 83 0 = st
        rw [n83]
        exact hR.symm
      · show (st = from' → c3 82 (0 * 700 + st) = 100) ∧ (¬ st = from' → c3 82 (0 * 700 + st) = -1)
        rw [show (0 : Int) * 700 + st = st by omega, n82 st s0 (by omega)]
        exact ⟨fun h => if_pos h, fun h => if_neg h⟩
    · intro j hj
      have : j = 0 := by omega
      subst this
      exact Int.le_refl _
    · intro j h1 h2 st s0 s1
      rw [n82 _ (by omega) (by omega), if_neg (by omega)]
  refine Mt.of rfl (Nat.le_of_ble_eq_true rfl) ?_
  show G _ 0 [some (.inr (.inr 80)), some (.inl from'), some (.inl tone), some (.inl s), none, none] [] sh ct
  refine g_aload_n (q := 1) dX3_weigh_0 rfl rfl ?_
  refine g_getI (q := 4) (kI := 9) fX3_32 (by first | assumption | exact S.at _ rfl) dX3_weigh_1 rfl rfl ?_
  refine g_aload_n (q := 5) dX3_weigh_4 rfl rfl ?_
  refine g_getO (q := 8) (kI := 0) fX3_36 (by first | assumption | exact S.at _ rfl) dX3_weigh_5 rfl rfl (by first | assumption | exact L.at _ _ rfl | exact LK.at (by assumption) _ _ rfl | ((repeat first | rewrite [wr_na (by decide)] | rewrite [wr_nk (by decide)] | rewrite [wa_na (by decide)]); first | assumption | exact LK.at (by assumption) _ _ rfl) | exact rfl) ?_
  refine g_getI (q := 11) (kI := 7) fX3_89 (by first | assumption | exact S.at _ rfl) dX3_weigh_8 rfl rfl ?_
  refine g_icmp_ne (q := 14) (tg := 66) dX3_weigh_11 (by decide) rfl (fun c_11 => ?_) (fun c_11 => ?_)
  · exact begin'
  · refine g_aload_n (q := 15) dX3_weigh_14 rfl rfl ?_
    refine g_getI (q := 18) (kI := 10) fX3_90 (by first | assumption | exact S.at _ rfl) dX3_weigh_15 rfl rfl ?_
    refine g_iload_n (q := 19) dX3_weigh_18 rfl rfl ?_
    refine g_icmp_ne (q := 22) (tg := 66) dX3_weigh_19 (by decide) rfl (fun c_19 => ?_) (fun c_19 => ?_)
    · exact begin'
    · refine g_aload_n (q := 23) dX3_weigh_22 rfl rfl ?_
      refine g_getI (q := 26) (kI := 11) fX3_93 (by first | assumption | exact S.at _ rfl) dX3_weigh_23 rfl rfl ?_
      refine g_iload_n (q := 27) dX3_weigh_26 rfl rfl ?_
      refine g_icmp_ne (q := 30) (tg := 66) dX3_weigh_27 (by decide) rfl (fun c_27 => ?_) (fun c_27 => ?_)
      · exact begin'
      · refine g_aload_n (q := 31) dX3_weigh_30 rfl rfl ?_
        refine g_getZ (q := 34) (kI := 8) fX3_68 (by first | assumption | exact S.at _ rfl) dX3_weigh_31 rfl rfl ?_
        refine g_iload_n (q := 35) dX3_weigh_34 rfl rfl ?_
        refine g_icmp_ne (q := 38) (tg := 66) dX3_weigh_35 (by decide) rfl (fun c_35 => ?_) (fun c_35 => ?_)
        · exact begin'
        · have k9 : ct 80 9 = ct 70 7 := by unfold w32 at c_11; omega
          have k10 : ct 80 10 = from' := by unfold w32 at c_19; omega
          have k11 : ct 80 11 = tone := by unfold w32 at c_27; omega
          have k8 : ct 80 8 = s := by unfold w32 at c_35; omega
          have hres : WgRes ct b β mk from' tone s sz ct := ⟨eqBut.rf, M, fun _ _ _ _ _ => rfl, k8, k9, k10, k11, hW k9⟩
          have hv := v0 ct hres
          have he := eW_in (s := s) (β := β) (mk := mk) (tone := tone) (tl := ct 81) (n := sz) sz from'
          refine g_aload_n (q := 39) dX3_weigh_38 rfl rfl ?_
          refine g_getA (q := 42) (kI := 3) fX3_15 (by first | assumption | exact S.at _ rfl) dX3_weigh_39 rfl rfl (by first | assumption | exact L.at _ _ rfl | exact LK.at (by assumption) _ _ rfl | ((repeat first | rewrite [wr_na (by decide)] | rewrite [wr_nk (by decide)] | rewrite [wa_na (by decide)]); first | assumption | exact LK.at (by assumption) _ _ rfl) | exact rfl) ?_
          refine g_aload_n (q := 43) dX3_weigh_42 rfl rfl ?_
          refine g_getI (q := 46) (kI := 10) fX3_90 (by first | assumption | exact S.at _ rfl) dX3_weigh_43 rfl rfl ?_
          rw [k10]
          refine g_baload (q := 47) (by first | assumption | exact S.at _ rfl) (by omega) (by omega) (by omega) dX3_weigh_46 rfl ?_
          rw [hv]
          refine g_bipush (q := 49) dX3_weigh_47 (by decide +kernel) rfl ?_
          refine g_icmp_ne (q := 52) (tg := 56) dX3_weigh_49 (by decide) rfl (fun c_49 => ?_) (fun c_49 => ?_)
          · refine g_aload_n (q := 57) dX3_weigh_56 rfl rfl ?_
            refine g_getA (q := 60) (kI := 3) fX3_15 (by first | assumption | exact S.at _ rfl) dX3_weigh_57 rfl rfl (by first | assumption | exact L.at _ _ rfl | exact LK.at (by assumption) _ _ rfl | ((repeat first | rewrite [wr_na (by decide)] | rewrite [wr_nk (by decide)] | rewrite [wa_na (by decide)]); first | assumption | exact LK.at (by assumption) _ _ rfl) | exact rfl) ?_
            refine g_aload_n (q := 61) dX3_weigh_60 rfl rfl ?_
            refine g_getI (q := 64) (kI := 10) fX3_90 (by first | assumption | exact S.at _ rfl) dX3_weigh_61 rfl rfl ?_
            rw [k10]
            refine g_baload (q := 65) (by first | assumption | exact S.at _ rfl) (by omega) (by omega) (by omega) dX3_weigh_64 rfl ?_
            rw [hv]
            refine g_ireturn dX3_weigh_65 rfl ?_
            rw [← hP]
            refine ⟨_, rfl, ?_, hres⟩
            rw [if_neg (fun h => c_49 (by rw [h]))]
          · have : eW s β mk tone (ct 81) sz sz from' = 100 := by unfold w32 at c_49; omega
            refine g_iconst (q := 53) dX3_weigh_52 rfl ?_
            refine g_goto (q := 65) dX3_weigh_53 (by decide) ?_
            refine g_ireturn dX3_weigh_65 rfl ?_
            rw [← hP]
            refine ⟨_, rfl, ?_, hres⟩
            rw [if_pos this]
end
