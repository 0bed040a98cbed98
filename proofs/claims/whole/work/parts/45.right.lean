/-! Layers: what was weighed is told -/
theorem LA.tr {c c2 : mbCt} {R : Int → Prop} {i : Int} {v : Int → Int} (h : LA c R i v) (e82 : c2 82 = c 82) (e83 : c2 83 = c 83) (e84 : c2 84 = c 84) : LA c2 R i v := h.mv (fun _ _ _ => by rw [e82]) (fun _ _ _ => by rw [e83]) (by rw [e84]) (by rw [e84])
theorem WG.mvt {c c2 : mbCt} {b : Int} {β : Bk} {mk : Int → Int} {sz : Nat} (h : WG c β mk sz) (m : MVt c c2 b β mk) : WG c2 β mk sz := by
  intro j hj
  rw [m.1 80 (by decide), m.1 81 (by decide)]
  exact (h j hj).tr (m.1 82 (by decide)) (m.1 83 (by decide)) (m.1 84 (by decide))
theorem eW_s {s : Int} {β : Bk} {mk : Int → Int} {tone : Int} {tl : Int → Int} {n i : Nat} (h : i < n) (st : Int) : eW s β mk tone tl n (n - i) st = lmin (fun k => eW s β mk tone tl n (n - (i + 1)) (nxB β st (k / 8 : Nat) (k % 8 : Nat)) + cost s (tl i) k) (brL (alwN s β mk st (tl i)) 48) := by
  rw [show n - i = (n - (i + 1)) + 1 by omega]
  show lmin (fun k => _ + cost s (tl ((n - (n - (i + 1) + 1) : Nat) : Int)) k) (brL (alwN s β mk st (tl ((n - (n - (i + 1) + 1) : Nat) : Int))) 48) = _
  rw [show n - (n - (i + 1) + 1) = i by omega]
def RtM (s : Int) (β : Bk) (mk : Int → Int) (tone : Int) (tl : Int → Int) (n : Nat) : Nat → Int → Nat → Int → Prop
  | 0, _, _, _ => False
  | r + 1, st, i, v => ∃ pre k post, brL (alwN s β mk st (tl ((n - (r + 1) : Nat) : Int))) 48 = pre ++ k :: post ∧ eW s β mk tone tl n r (nxB β st (k / 8 : Nat) (k % 8 : Nat)) + cost s (tl ((n - (r + 1) : Nat) : Int)) k = eW s β mk tone tl n (r + 1) st ∧ (∀ k' ∈ pre, eW s β mk tone tl n r (nxB β st (k' / 8 : Nat) (k' % 8 : Nat)) + cost s (tl ((n - (r + 1) : Nat) : Int)) k' ≠ eW s β mk tone tl n (r + 1) st) ∧ ((i = 0 ∧ v = mnt k) ∨ ∃ i', i = i' + 1 ∧ RtM s β mk tone tl n r (nxB β st (k / 8 : Nat) (k % 8 : Nat)) i' v)
theorem RtM.uni {s : Int} {β : Bk} {mk : Int → Int} {tone : Int} {tl : Int → Int} {n : Nat} : ∀ {r : Nat} {st : Int} {i : Nat} {v v2 : Int}, RtM s β mk tone tl n r st i v → RtM s β mk tone tl n r st i v2 → v = v2
  | 0, _, _, _, _, h, _ => h.elim
  | r + 1, st, i, v, v2, ⟨p1, k1, q1, a1, a2, a3, a4⟩, ⟨p2, k2, q2, b1, b2, b3, b4⟩ => by
    have := split_u (P := fun k => eW s β mk tone tl n r (nxB β st (k / 8 : Nat) (k % 8 : Nat)) + cost s (tl ((n - (r + 1) : Nat) : Int)) k = eW s β mk tone tl n (r + 1) st) (a1.symm.trans b1) a3 b3 a2 b2
    obtain ⟨-, rfl⟩ := this
    rcases a4 with ⟨rfl, rfl⟩ | ⟨i', rfl, a4⟩
    · rcases b4 with ⟨-, rfl⟩ | ⟨i2, h, -⟩
      · rfl
      · omega
    · rcases b4 with ⟨h, -⟩ | ⟨i2, h, b4⟩
      · omega
      · have : i' = i2 := by omega
        subst this
        exact RtM.uni a4 b4
def lkS (β : Bk) (mk : Int → Int) (tone : Int) (tl : Int → Int) (n : Nat) : Nat → Int → Int → Int
  | 0, _, best => best
  | r + 1, st, best => if tl ((n - (r + 1) : Nat) : Int) ≠ -1 ∧ canB β mk st (tIdx (tl ((n - (r + 1) : Nat) : Int))) = true then lkS β mk tone tl n r (nxB β st (tl ((n - (r + 1) : Nat) : Int) / 10) (tl ((n - (r + 1) : Nat) : Int) % 10)) (if eW 0 β mk tone tl n r (nxB β st (tl ((n - (r + 1) : Nat) : Int) / 10) (tl ((n - (r + 1) : Nat) : Int) % 10)) = 100 then best else ((n - r : Nat) : Int)) else best
def fbS (β : Bk) (mk : Int → Int) (tl : Int → Int) (n : Nat) : Nat → Int → Int
  | 0, _ => -1
  | r + 1, st => if tl ((n - (r + 1) : Nat) : Int) ≠ -1 ∧ canB β mk st (tIdx (tl ((n - (r + 1) : Nat) : Int))) = true then fbS β mk tl n r (nxB β st (tl ((n - (r + 1) : Nat) : Int) / 10) (tl ((n - (r + 1) : Nat) : Int) % 10)) else ((n - (r + 1) : Nat) : Int)
theorem lkS_s {β : Bk} {mk : Int → Int} {tone : Int} {tl : Int → Int} {n j : Nat} (h : j < n) (st best : Int) : lkS β mk tone tl n (n - j) st best = if tl j ≠ -1 ∧ canB β mk st (tIdx (tl j)) = true then lkS β mk tone tl n (n - (j + 1)) (nxB β st (tl j / 10) (tl j % 10)) (if eW 0 β mk tone tl n (n - (j + 1)) (nxB β st (tl j / 10) (tl j % 10)) = 100 then best else ((j : Int) + 1)) else best := by
  rw [show n - j = (n - (j + 1)) + 1 by omega]
  show (if _ then lkS β mk tone tl n (n - (j + 1)) _ (if _ then _ else ((n - (n - (j + 1)) : Nat) : Int)) else _) = _
  rw [show n - (n - (j + 1) + 1) = j by omega, show n - (n - (j + 1)) = j + 1 by omega]
  rfl
theorem fbS_s {β : Bk} {mk : Int → Int} {tl : Int → Int} {n j : Nat} (h : j < n) (st : Int) : fbS β mk tl n (n - j) st = if tl j ≠ -1 ∧ canB β mk st (tIdx (tl j)) = true then fbS β mk tl n (n - (j + 1)) (nxB β st (tl j / 10) (tl j % 10)) else (j : Int) := by
  rw [show n - j = (n - (j + 1)) + 1 by omega]
  show (if _ then _ else _) = _
  rw [show n - (n - (j + 1) + 1) = j by omega]
theorem tIdx_d {β : Bk} {t : Int} (h : toldOk β t) (hn : t ≠ -1) (h3 : β.n 3 ≤ 8) : ((tIdx t / 8 : Nat) : Int) = t / 10 ∧ ((tIdx t % 8 : Nat) : Int) = t % 10 := by
  rcases h with h | ⟨a, b, c⟩
  · exact absurd h hn
  · unfold tIdx
    omega
section
variable (d : Nat) (sh : mbSh) (ct : mbCt)
def frC (ct : mbCt) (b : Int) (β : Bk) (mk : Int → Int) (st : Int) (l : List Nat) (f : Nat → Int) (E r : Int) (c : mbCt) : Prop := rowIs (c 75) mnt l ∧ rowIs (c 76) (fun i => nxB β st (i / 8 : Nat) (i % 8 : Nat)) l ∧ MVt ct c b β mk ∧ ((∃ u : Nat, ∃ hu : u < l.length, r = u ∧ f l[u] = E ∧ ∀ k ∈ l.take u, f k ≠ E) ∨ (r = -1 ∧ ∀ k ∈ l, f k ≠ E))
theorem c_firstRight {i b st : Int} {t : Int} {β : Bk} {mk : Int → Int} {v : Int → Int} {E : Int} (S : SH sh) (M : MV ct b β mk) (i0 : 0 ≤ i) (i1 : i < 12) (ht : ct 81 i = t) (ho : toldOk β t) (h8 : ct 80 8 = 0 ∨ ct 80 8 = 1) (h0 : 0 ≤ st) (h1 : st < 700) (hv : ∀ k ∈ brL (alwN (ct 80 8) β mk st t) 48, ct 82 ((i + 1) * 700 + nxB β st (k / 8 : Nat) (k % 8 : Nat)) = v (nxB β st (k / 8 : Nat) (k % 8 : Nat))) (hvr : ∀ x, 0 ≤ v x ∧ v x ≤ 100) (hE : ct 82 (i * 700 + st) = E) (hE2 : 0 ≤ E ∧ E ≤ 100) : Mt YX3_firstRight (d + 4) [.inr (.inr 80), .inl i, .inl st] sh sh ct (pI fun r c => frC ct b β mk st (brL (alwN (ct 80 8) β mk st t) 48) (fun k => v (nxB β st (k / 8 : Nat) (k % 8 : Nat)) + cost (ct 80 8) t k) E r c) := by
  have hme := M.me
  have s82 : shA sh 82 = some (22, 9100) := S.at _ rfl
  generalize hP : (pI fun r c => frC ct b β mk st (brL (alwN (ct 80 8) β mk st t) 48) (fun k => v (nxB β st (k / 8 : Nat) (k % 8 : Nat)) + cost (ct 80 8) t k) E r c) = Po
  refine Mt.of rfl (Nat.le_of_ble_eq_true rfl) ?_
  show G _ 0 [some (.inr (.inr 80)), some (.inl i), some (.inl st), none, none] [] sh ct
  refine g_aload_n (q := 1) dX3_firstRight_0 rfl rfl ?_
  refine g_iload_n (q := 2) dX3_firstRight_1 rfl rfl ?_
  refine g_iload_n (q := 3) dX3_firstRight_2 rfl rfl ?_
  refine g_callV (q := 6) lX3_83 mX3_branchFor nX3_branchFor rfl (c_branchFor d sh ct S M i0 i1 ht ho h0 h1 h8) (by first | assumption | exact S.at _ rfl) rfl rfl shLe.rf (rmOk.mk (by omega) (by first | exact shLe.rf | assumption)) (Nat.le_of_ble_eq_true rfl) dX3_firstRight_3 rfl rfl (kI fun r c hp => ?_)
  obtain ⟨rfl, r75, r76, m1⟩ := hp
  have L1 := m1.2.L
  have e80 : c 80 = ct 80 := m1.1 80 (by decide)
  have e81 : c 81 = ct 81 := m1.1 81 (by decide)
  have e82 : c 82 = ct 82 := m1.1 82 (by decide)
  generalize hB : brL (alwN (ct 80 8) β mk st t) 48 = l at r75 r76 hv hP
  have hl : l.length ≤ 48 := by rw [← hB]; exact brL_len _ _
  have hlb : ∀ x ∈ l, x < 48 := fun x hx => by rw [← hB] at hx; exact (brL_mem.mp hx).1
  have loop : ∀ (k u : Nat), u + k = l.length → (∀ k ∈ l.take u, v (nxB β st (k / 8 : Nat) (k % 8 : Nat)) + cost (ct 80 8) t k ≠ E) → G (mkK YX3_firstRight (d + 4) sh sh Po) 10 [some (.inr (.inr 80)), some (.inl i), some (.inl st), some (.inl (l.length : Nat)), some (.inl u)] [] sh c := by
    intro k
    induction k with
    | zero =>
      intro u hu hno
      refine g_iload (q := 12) dX3_firstRight_10 rfl rfl ?_
      refine g_iload_n (q := 13) dX3_firstRight_12 rfl rfl ?_
      refine g_icmp_ge (q := 16) (tg := 47) dX3_firstRight_13 (by decide) rfl (fun c_13 => ?_) (fun c_13 => ?_)
      · refine g_iconst (q := 48) dX3_firstRight_47 rfl ?_
        refine g_ireturn dX3_firstRight_48 rfl ?_
        rw [← hP]
        refine ⟨_, rfl, r75, r76, m1, Or.inr ⟨rfl, ?_⟩⟩
        rw [show u = l.length by omega, List.take_length] at hno
        exact hno
      · exact absurd c_13 (by unfold w32; omega)
    | succ k ih =>
      intro u hu hno
      have hul : u < l.length := by omega
      have hmem := List.getElem_mem hul
      have hc := cost_in (ct 80 8) t l[u]
      have hv1 := hvr (nxB β st (l[u] / 8 : Nat) (l[u] % 8 : Nat))
      refine g_iload (q := 12) dX3_firstRight_10 rfl rfl ?_
      refine g_iload_n (q := 13) dX3_firstRight_12 rfl rfl ?_
      refine g_icmp_ge (q := 16) (tg := 47) dX3_firstRight_13 (by decide) rfl (fun c_13 => ?_) (fun c_13 => ?_)
      · exact absurd c_13 (by unfold w32; omega)
      · refine g_aload_n (q := 17) dX3_firstRight_16 rfl rfl ?_
        refine g_iload_n (q := 18) dX3_firstRight_17 rfl rfl ?_
        refine g_iload (q := 20) dX3_firstRight_18 rfl rfl ?_
        refine g_callV (q := 23) lX3_108 mX3_othersBy nX3_othersBy rfl (c_othersBy (d + 3) sh c (b := b) (mk := mk) (v := v (nxB β st (l[u] / 8 : Nat) (l[u] % 8 : Nat))) S L1 i0 i1 (by rw [e81]; exact ht) ho hme.2 (by rw [e80]; exact h8) r75 r76 hul hl hlb (by rw [e82]; exact hv _ hmem)) (by first | assumption | exact S.at _ rfl) rfl rfl shLe.rf (rmOk.mk (by omega) (by first | exact shLe.rf | assumption)) (Nat.le_of_ble_eq_true rfl) dX3_firstRight_20 rfl rfl (kI fun r c2 hp => ?_)
        obtain ⟨rfl, rfl⟩ := hp
        rw [e80]
        refine g_aload_n (q := 24) dX3_firstRight_23 rfl rfl ?_
        refine g_getA (q := 27) (kI := 3) fX3_15 (by first | assumption | exact S.at _ rfl) dX3_firstRight_24 rfl rfl (by first | assumption | exact L.at _ _ rfl | exact LK.at (by assumption) _ _ rfl | ((repeat first | rewrite [wr_na (by decide)] | rewrite [wr_nk (by decide)] | rewrite [wa_na (by decide)]); first | assumption | exact LK.at (by assumption) _ _ rfl) | exact rfl) ?_
        refine g_iload_n (q := 28) dX3_firstRight_27 rfl rfl ?_
        refine g_sipush (q := 31) dX3_firstRight_28 (by decide +kernel) rfl ?_
        refine g_imul (q := 32) dX3_firstRight_31 rfl ?_
        refine g_iload_n (q := 33) dX3_firstRight_32 rfl rfl ?_
        refine g_iadd (q := 34) dX3_firstRight_33 rfl ?_
        refine g_baload (q := 35) (by first | assumption | exact S.at _ rfl) (by omega) (by omega) (by omega) dX3_firstRight_34 rfl ?_
        rw [e82, hE]
        refine g_icmp_ne (q := 38) (tg := 41) dX3_firstRight_35 (by decide) rfl (fun c_35 => ?_) (fun c_35 => ?_)
        · refine s_iinc_5_4 (q := 44) dX3_firstRight_41 rfl rfl rfl ?_
          refine g_goto (q := 10) dX3_firstRight_44 (by decide) ?_
          have := ih (u + 1) (by omega) ?_
          · rw [Int.natCast_succ] at this
            exact this
          · intro k' hk'
            rw [List.take_add_one, List.getElem?_eq_getElem hul] at hk'
            rcases List.mem_append.mp hk' with h | h
            · exact hno k' h
            · simp at h
              subst h
              intro he
              exact c_35 (by rw [he])
        · refine g_iload (q := 40) dX3_firstRight_38 rfl rfl ?_
          refine g_ireturn dX3_firstRight_40 rfl ?_
          rw [← hP]
          refine ⟨_, rfl, r75, r76, m1, Or.inl ⟨u, hul, rfl, ?_, hno⟩⟩
          show v (nxB β st (l[u] / 8 : Nat) (l[u] % 8 : Nat)) + cost (ct 80 8) t l[u] = E
          generalize v (nxB β st (l[u] / 8 : Nat) (l[u] % 8 : Nat)) = z at hv1 c_35 ⊢
          unfold w32 at c_35
          omega
  refine s_istore_n_5_3 (q := 7) dX3_firstRight_6 rfl rfl rfl ?_
  refine g_iconst (q := 8) dX3_firstRight_7 rfl ?_
  refine s_istore_5_4 (q := 10) dX3_firstRight_8 rfl rfl rfl ?_
  exact loop l.length 0 (by omega) (fun k hk => by simp at hk)
theorem c_rightMinute {b i : Int} {β : Bk} {mk : Int → Int} {sz : Nat} (S : SH sh) (M : MV ct b β mk) (i0 : 0 ≤ i) (i1 : i < 2147483648) (hsz : ct 80 2 = sz) (hs1 : sz ≤ 12) (hto : ∀ i : Nat, i < sz → toldOk β (ct 81 i)) (h8 : ct 80 8 = 0 ∨ ct 80 8 = 1) (h10 : 0 ≤ ct 80 10 ∧ ct 80 10 < 700) (W : WG ct β mk sz) (hf : eW (ct 80 8) β mk (ct 80 11) (ct 81) sz sz (ct 80 10) < 100) : Mt YX3_rightMinute (d + 5) [.inr (.inr 80), .inl i] sh sh ct (pI fun r c => ((i < sz ∧ RtM (ct 80 8) β mk (ct 80 11) (ct 81) sz sz (ct 80 10) i.toNat r) ∨ (sz ≤ i ∧ r = -1)) ∧ MVt ct c b β mk) := by
  have L := M.L
  have s75 : shA sh 75 = some (20, 48) := S.at _ rfl
  have s76 : shA sh 76 = some (20, 48) := S.at _ rfl
  generalize hP : (pI fun r c => ((i < sz ∧ RtM (ct 80 8) β mk (ct 80 11) (ct 81) sz sz (ct 80 10) i.toNat r) ∨ (sz ≤ i ∧ r = -1)) ∧ MVt ct c b β mk) = Po
  generalize hs8 : ct 80 8 = s at *
  generalize hs11 : ct 80 11 = tone at *
  generalize hs10 : ct 80 10 = start at *
  have loop : ∀ (k j : Nat) (c : mbCt) (mi st : Int) (o5 : Option gV), j + k = i.toNat + 1 → i < sz → MVt ct c b β mk → Rch s β mk (ct 81) start j st → 0 ≤ st ∧ st < 700 → eW s β mk tone (ct 81) sz (sz - j) st < 100 → (j ≤ i.toNat → ∀ v, RtM s β mk tone (ct 81) sz (sz - j) st (i.toNat - j) v → RtM s β mk tone (ct 81) sz sz start i.toNat v) → (j = i.toNat + 1 → RtM s β mk tone (ct 81) sz sz start i.toNat mi) → G (mkK YX3_rightMinute (d + 5) sh sh Po) 10 [some (.inr (.inr 80)), some (.inl i), some (.inl mi), some (.inl st), some (.inl j), o5] [] sh c := by
    intro k
    induction k with
    | zero =>
      intro j c mi st o5 hj hi hm hR hst hE hc1 hc2
      refine g_iload (q := 12) dX3_rightMinute_10 rfl rfl ?_
      refine g_iload_n (q := 13) dX3_rightMinute_12 rfl rfl ?_
      refine g_icmp_gt (q := 16) (tg := 69) dX3_rightMinute_13 (by decide) rfl (fun c_13 => ?_) (fun c_13 => ?_)
      · refine g_iload_n (q := 70) dX3_rightMinute_69 rfl rfl ?_
        refine g_ireturn dX3_rightMinute_70 rfl ?_
        rw [← hP]
        exact ⟨_, rfl, Or.inl ⟨hi, hc2 (by omega)⟩, hm⟩
      · exact absurd c_13 (by unfold w32; omega)
    | succ k ih =>
      intro j c mi st o5 hj hi hm hR hst hE hc1 hc2
      have e80 : c 80 = ct 80 := hm.1 80 (by decide)
      have e81 : c 81 = ct 81 := hm.1 81 (by decide)
      have e82 : c 82 = ct 82 := hm.1 82 (by decide)
      have l2 : c 80 2 = sz := by rw [e80]; exact hsz
      have Lc := hm.2.L
      have hEs := eW_s (s := s) (β := β) (mk := mk) (tone := tone) (tl := ct 81) (n := sz) (i := j) (by omega) st
      obtain ⟨p, m, -, -, -, -, -, a6⟩ := W j (by omega)
      obtain ⟨p2, m2, -, -, -, -, -, b6⟩ := W (j + 1) (by omega)
      rw [hs8, hs10, hs11] at a6 b6
      have hvv : ∀ k ∈ brL (alwN (c 80 8) β mk st (ct 81 j)) 48, c 82 ((j + 1) * 700 + nxB β st (k / 8 : Nat) (k % 8 : Nat)) = eW s β mk tone (ct 81) sz (sz - (j + 1)) (nxB β st (k / 8 : Nat) (k % 8 : Nat)) := by
        intro k hk
        have hn := brL_nx hk β st
        rw [e80, hs8] at hk
        rw [e82]
        exact (b6 _ hn.1 hn.2).1 ⟨st, k, hR, hk, rfl⟩
      have hEE : c 82 (j * 700 + st) = eW s β mk tone (ct 81) sz (sz - j) st := by
        rw [e82]
        exact (a6 st hst.1 hst.2).1 hR
      refine g_iload (q := 12) dX3_rightMinute_10 rfl rfl ?_
      refine g_iload_n (q := 13) dX3_rightMinute_12 rfl rfl ?_
      refine g_icmp_gt (q := 16) (tg := 69) dX3_rightMinute_13 (by decide) rfl (fun c_13 => ?_) (fun c_13 => ?_)
      · exact absurd c_13 (by unfold w32; omega)
      · refine g_iload_n (q := 17) dX3_rightMinute_16 rfl rfl ?_
        refine g_aload_n (q := 18) dX3_rightMinute_17 rfl rfl ?_
        refine g_getI (q := 21) (kI := 2) fX3_40 (by first | assumption | exact S.at _ rfl) dX3_rightMinute_18 rfl rfl ?_
        rw [l2]
        refine g_icmp_ge (q := 24) (tg := 69) dX3_rightMinute_21 (by decide) rfl (fun c_21 => ?_) (fun c_21 => ?_)
        · exact absurd c_21 (by unfold w32; omega)
        · refine g_aload_n (q := 25) dX3_rightMinute_24 rfl rfl ?_
          refine g_iload (q := 27) dX3_rightMinute_25 rfl rfl ?_
          refine g_iload_n (q := 28) dX3_rightMinute_27 rfl rfl ?_
          refine g_callV (q := 31) lX3_119 mX3_firstRight nX3_firstRight rfl (c_firstRight d sh c S hm.2 (i := j) (by omega) (by omega) (by rw [e81]) (hto j (by omega)) (by rw [e80, hs8]; exact h8) hst.1 hst.2 hvv (fun x => eW_in _ _) hEE (eW_in _ _)) (by first | assumption | exact S.at _ rfl) rfl rfl shLe.rf (rmOk.mk (by omega) (by first | exact shLe.rf | assumption)) (Nat.le_of_ble_eq_true rfl) dX3_rightMinute_28 rfl rfl (kI fun r c2 hp => ?_)
          obtain ⟨r75, r76, m1, hor⟩ := hp
          rw [e80, hs8] at r75 r76 hor
          have mt := hm.tr m1
          have L2 := mt.2.L
          generalize hB : brL (alwN s β mk st (ct 81 j)) 48 = l at r75 r76 hor hEs
          have hl : l.length ≤ 48 := by rw [← hB]; exact brL_len _ _
          rcases hor with ⟨u, hu, rfl, hue, hno⟩ | ⟨rfl, hno⟩
          · have v75 : c2 75 u = mnt l[u] := r75 u hu
            have v76 : c2 76 u = nxB β st (l[u] / 8 : Nat) (l[u] % 8 : Nat) := r76 u hu
            have hmem := List.getElem_mem hu
            have hn := brL_nx (by rw [hB]; exact hmem) β st
            have hEn := eW_in (s := s) (β := β) (mk := mk) (tone := tone) (tl := ct 81) (n := sz) (sz - (j + 1)) (nxB β st (l[u] / 8 : Nat) (l[u] % 8 : Nat))
            have hcs := cost_in s (ct 81 j) l[u]
            have hsplit : l = l.take u ++ l[u] :: l.drop (u + 1) := by rw [List.getElem_cons_drop, List.take_append_drop]
            refine s_istore_6_5 (q := 33) dX3_rightMinute_31 rfl rfl rfl ?_
            refine g_iload (q := 35) dX3_rightMinute_33 rfl rfl ?_
            refine g_iconst (q := 36) dX3_rightMinute_35 rfl ?_
            refine g_icmp_ne (q := 39) (tg := 41) dX3_rightMinute_36 (by decide) rfl (fun c_36 => ?_) (fun c_36 => ?_)
            · refine g_aload_n (q := 42) dX3_rightMinute_41 rfl rfl ?_
              refine g_getO (q := 45) (kI := 0) fX3_36 (by first | assumption | exact S.at _ rfl) dX3_rightMinute_42 rfl rfl (by first | assumption | exact L.at _ _ rfl | exact LK.at (by assumption) _ _ rfl | ((repeat first | rewrite [wr_na (by decide)] | rewrite [wr_nk (by decide)] | rewrite [wa_na (by decide)]); first | assumption | exact LK.at (by assumption) _ _ rfl) | exact rfl) ?_
              refine g_getA (q := 48) (kI := 8) fX3_116 (by first | assumption | exact S.at _ rfl) dX3_rightMinute_45 rfl rfl (by first | assumption | exact L.at _ _ rfl | exact LK.at (by assumption) _ _ rfl | ((repeat first | rewrite [wr_na (by decide)] | rewrite [wr_nk (by decide)] | rewrite [wa_na (by decide)]); first | assumption | exact LK.at (by assumption) _ _ rfl) | exact rfl) ?_
              refine g_iload (q := 50) dX3_rightMinute_48 rfl rfl ?_
              refine g_iaload (q := 51) (by first | assumption | exact S.at _ rfl) (by omega) (by omega) (by omega) dX3_rightMinute_50 rfl ?_
              rw [v75]
              refine s_istore_n_6_2 (q := 52) dX3_rightMinute_51 rfl rfl rfl ?_
              refine g_aload_n (q := 53) dX3_rightMinute_52 rfl rfl ?_
              refine g_getO (q := 56) (kI := 0) fX3_36 (by first | assumption | exact S.at _ rfl) dX3_rightMinute_53 rfl rfl (by first | assumption | exact L.at _ _ rfl | exact LK.at (by assumption) _ _ rfl | ((repeat first | rewrite [wr_na (by decide)] | rewrite [wr_nk (by decide)] | rewrite [wa_na (by decide)]); first | assumption | exact LK.at (by assumption) _ _ rfl) | exact rfl) ?_
              refine g_getA (q := 59) (kI := 9) fX3_86 (by first | assumption | exact S.at _ rfl) dX3_rightMinute_56 rfl rfl (by first | assumption | exact L.at _ _ rfl | exact LK.at (by assumption) _ _ rfl | ((repeat first | rewrite [wr_na (by decide)] | rewrite [wr_nk (by decide)] | rewrite [wa_na (by decide)]); first | assumption | exact LK.at (by assumption) _ _ rfl) | exact rfl) ?_
              refine g_iload (q := 61) dX3_rightMinute_59 rfl rfl ?_
              refine g_iaload (q := 62) (by first | assumption | exact S.at _ rfl) (by omega) (by omega) (by omega) dX3_rightMinute_61 rfl ?_
              rw [v76]
              refine s_istore_n_6_3 (q := 63) dX3_rightMinute_62 rfl rfl rfl ?_
              refine s_iinc_6_4 (q := 66) dX3_rightMinute_63 rfl rfl rfl ?_
              refine g_goto (q := 10) dX3_rightMinute_66 (by decide) ?_
              have x1 : sz - j = (sz - (j + 1)) + 1 := by omega
              have x2 : sz - (sz - (j + 1) + 1) = j := by omega
              have step : ∀ v i', ((i' = 0 ∧ v = mnt l[u]) ∨ ∃ i2, i' = i2 + 1 ∧ RtM s β mk tone (ct 81) sz (sz - (j + 1)) (nxB β st (l[u] / 8 : Nat) (l[u] % 8 : Nat)) i2 v) → RtM s β mk tone (ct 81) sz (sz - j) st i' v := by
                intro v i' hv
                rw [x1]
                refine ⟨l.take u, l[u], l.drop (u + 1), ?_, ?_, ?_, hv⟩
                · rw [x2, hB]
                  exact hsplit
                · rw [x2, ← x1]
                  exact hue
                · intro k' hk'
                  rw [x2, ← x1]
                  exact hno k' hk'
              have := ih (j + 1) c2 (mnt l[u]) (nxB β st (l[u] / 8 : Nat) (l[u] % 8 : Nat)) (some (.inl u)) (by omega) hi mt ⟨st, l[u], hR, by rw [hB]; exact hmem, rfl⟩ hn ?_ ?_ ?_
              · rw [Int.natCast_succ] at this
                exact this
              · simp only at hue
                omega
              · intro hj2 v hv
                refine hc1 (by omega) v (step v _ (Or.inr ⟨i.toNat - (j + 1), by omega, hv⟩))
              · intro hj2
                exact hc1 (by omega) _ (step _ _ (Or.inl ⟨by omega, rfl⟩))
            · exact absurd c_36 (by unfold w32; omega)
          · exfalso
            rcases (lmin_le (fun k => eW s β mk tone (ct 81) sz (sz - (j + 1)) (nxB β st (k / 8 : Nat) (k % 8 : Nat)) + cost s (ct 81 j) k) l).2.2 with h | ⟨k', h1, h2⟩
            · rw [← hEs] at h
              omega
            · rw [← hEs] at h2
              exact hno k' h1 h2
  refine Mt.of rfl (Nat.le_of_ble_eq_true rfl) ?_
  show G _ 0 [some (.inr (.inr 80)), some (.inl i), none, none, none, none] [] sh ct
  refine g_iconst (q := 1) dX3_rightMinute_0 rfl ?_
  refine s_istore_n_6_2 (q := 2) dX3_rightMinute_1 rfl rfl rfl ?_
  refine g_aload_n (q := 3) dX3_rightMinute_2 rfl rfl ?_
  refine g_getI (q := 6) (kI := 10) fX3_90 (by first | assumption | exact S.at _ rfl) dX3_rightMinute_3 rfl rfl ?_
  rw [hs10]
  refine s_istore_n_6_3 (q := 7) dX3_rightMinute_6 rfl rfl rfl ?_
  refine g_iconst (q := 8) dX3_rightMinute_7 rfl ?_
  refine s_istore_6_4 (q := 10) dX3_rightMinute_8 rfl rfl rfl ?_
  by_cases hi : i < sz
  · exact loop (i.toNat + 1) 0 ct (-1) start none (by omega) hi M.rf rfl h10 hf (fun _ v hv => hv) (fun h => by omega)
  · refine g_iload (q := 12) dX3_rightMinute_10 rfl rfl ?_
    refine g_iload_n (q := 13) dX3_rightMinute_12 rfl rfl ?_
    refine g_icmp_gt (q := 16) (tg := 69) dX3_rightMinute_13 (by decide) rfl (fun c_13 => ?_) (fun c_13 => ?_)
    · exact absurd c_13 (by unfold w32; omega)
    · refine g_iload_n (q := 17) dX3_rightMinute_16 rfl rfl ?_
      refine g_aload_n (q := 18) dX3_rightMinute_17 rfl rfl ?_
      refine g_getI (q := 21) (kI := 2) fX3_40 (by first | assumption | exact S.at _ rfl) dX3_rightMinute_18 rfl rfl ?_
      rw [hsz]
      refine g_icmp_ge (q := 24) (tg := 69) dX3_rightMinute_21 (by decide) rfl (fun c_21 => ?_) (fun c_21 => ?_)
      · refine g_iload_n (q := 70) dX3_rightMinute_69 rfl rfl ?_
        refine g_ireturn dX3_rightMinute_70 rfl ?_
        rw [← hP]
        exact ⟨_, rfl, Or.inr ⟨by omega, rfl⟩, M.rf⟩
      · exact absurd c_21 (by unfold w32; omega)
theorem c_longestKept {b : Int} {β : Bk} {mk : Int → Int} {sz : Nat} (S : SH sh) (M : MV ct b β mk) (hsz : ct 80 2 = sz) (hs1 : sz ≤ 12) (hto : ∀ i : Nat, i < sz → toldOk β (ct 81 i)) (h8 : ct 80 8 = 0) (h10 : 0 ≤ ct 80 10 ∧ ct 80 10 < 700) (W : WG ct β mk sz) : Mt YX3_longestKept (d + 4) [.inr (.inr 80)] sh sh ct (pI fun r c => r = lkS β mk (ct 80 11) (ct 81) sz sz (ct 80 10) 0 ∧ MVt ct c b β mk) := by
  have L := M.L
  have hsy := M.sy
  have hme := M.me
  have s82 : shA sh 82 = some (22, 9100) := S.at _ rfl
  generalize hP : (pI fun r c => r = lkS β mk (ct 80 11) (ct 81) sz sz (ct 80 10) 0 ∧ MVt ct c b β mk) = Po
  have loop : ∀ (k j : Nat) (c : mbCt) (best st : Int), j + k = sz → MVt ct c b β mk → Rch 0 β mk (ct 81) (ct 80 10) j st → 0 ≤ st ∧ st < 700 → lkS β mk (ct 80 11) (ct 81) sz (sz - j) st best = lkS β mk (ct 80 11) (ct 81) sz sz (ct 80 10) 0 → G (mkK YX3_longestKept (d + 4) sh sh Po) 9 [some (.inr (.inr 80)), some (.inl best), some (.inl st), some (.inl j)] [] sh c := by
    intro k
    induction k with
    | zero =>
      intro j c best st hj hm hR hst hval
      have e80 : c 80 = ct 80 := hm.1 80 (by decide)
      have l2 : c 80 2 = sz := by rw [e80]; exact hsz
      refine g_iload_n (q := 10) dX3_longestKept_9 rfl rfl ?_
      refine g_aload_n (q := 11) dX3_longestKept_10 rfl rfl ?_
      refine g_getI (q := 14) (kI := 2) fX3_40 (by first | assumption | exact S.at _ rfl) dX3_longestKept_11 rfl rfl ?_
      rw [l2]
      refine g_icmp_ge (q := 17) (tg := 62) dX3_longestKept_14 (by decide) rfl (fun c_14 => ?_) (fun c_14 => ?_)
      · refine g_iload_n (q := 63) dX3_longestKept_62 rfl rfl ?_
        refine g_ireturn dX3_longestKept_63 rfl ?_
        rw [← hP]
        refine ⟨_, rfl, ?_, hm⟩
        rw [← hval, show sz - j = 0 by omega]
        rfl
      · exact absurd c_14 (by unfold w32; omega)
    | succ k ih =>
      intro j c best st hj hm hR hst hval
      have e80 : c 80 = ct 80 := hm.1 80 (by decide)
      have e81 : c 81 = ct 81 := hm.1 81 (by decide)
      have l2 : c 80 2 = sz := by rw [e80]; exact hsz
      have htj := hto j (by omega)
      rw [lkS_s (show j < sz by omega)] at hval
      refine g_iload_n (q := 10) dX3_longestKept_9 rfl rfl ?_
      refine g_aload_n (q := 11) dX3_longestKept_10 rfl rfl ?_
      refine g_getI (q := 14) (kI := 2) fX3_40 (by first | assumption | exact S.at _ rfl) dX3_longestKept_11 rfl rfl ?_
      rw [l2]
      refine g_icmp_ge (q := 17) (tg := 62) dX3_longestKept_14 (by decide) rfl (fun c_14 => ?_) (fun c_14 => ?_)
      · exact absurd c_14 (by unfold w32; omega)
      · refine g_aload_n (q := 18) dX3_longestKept_17 rfl rfl ?_
        refine g_iload_n (q := 19) dX3_longestKept_18 rfl rfl ?_
        refine g_iload_n (q := 20) dX3_longestKept_19 rfl rfl ?_
        refine g_callV (q := 23) lX3_43 mX3_canStay nX3_canStay rfl (c_canStay d sh c S hm.2 (i := j) (by omega) (by omega) (by rw [e81]) htj hst.1 hst.2) (by first | assumption | exact S.at _ rfl) rfl rfl shLe.rf (rmOk.mk (by omega) (by first | exact shLe.rf | assumption)) (Nat.le_of_ble_eq_true rfl) dX3_longestKept_20 rfl rfl (kI fun r c2 hp => ?_)
        obtain ⟨rfl, m1⟩ := hp
        have mt := hm.tr m1
        have L2 := mt.2.L
        have f81 : c2 81 = ct 81 := mt.1 81 (by decide)
        have f82 : c2 82 = ct 82 := mt.1 82 (by decide)
        refine g_if_eq (q := 26) (tg := 62) dX3_longestKept_23 (by decide) rfl (fun c_23 => ?_) (fun c_23 => ?_)
        · have hno : ¬ (ct 81 j ≠ -1 ∧ canB β mk st (tIdx (ct 81 j)) = true) := by
            intro h
            rw [← b01_t h] at c_23
            exact absurd c_23 (by decide)
          rw [if_neg hno] at hval
          refine g_iload_n (q := 63) dX3_longestKept_62 rfl rfl ?_
          refine g_ireturn dX3_longestKept_63 rfl ?_
          rw [← hP]
          exact ⟨_, rfl, hval, mt⟩
        · have hyes : ct 81 j ≠ -1 ∧ canB β mk st (tIdx (ct 81 j)) = true := by
            by_cases h : ct 81 j ≠ -1 ∧ canB β mk st (tIdx (ct 81 j)) = true
            · exact h
            · rw [← b01_f h] at c_23
              exact absurd rfl c_23
          rw [if_pos hyes] at hval
          have hd2 := tIdx_d htj hyes.1 hsy.2
          have hlt : tIdx (ct 81 j) < 48 := by
            rcases htj with h | ⟨a, b', c'⟩
            · exact absurd h hyes.1
            · unfold tIdx
              omega
          have hn : 0 ≤ nxB β st (ct 81 j / 10) (ct 81 j % 10) ∧ nxB β st (ct 81 j / 10) (ct 81 j % 10) < 700 := by rw [← hd2.1, ← hd2.2]; exact nxB_in (by omega) (by omega)
          have hR2 : Rch 0 β mk (ct 81) (ct 80 10) (j + 1) (nxB β st (ct 81 j / 10) (ct 81 j % 10)) := by
            refine ⟨st, tIdx (ct 81 j), hR, ?_, by rw [hd2.1, hd2.2]⟩
            unfold alwN
            rw [if_neg (by omega)]
            exact brL_mem.mpr ⟨hlt, by rw [msN_bit, decide_eq_true hlt, Bool.true_and]; exact hyes.2⟩
          obtain ⟨p2, m2, -, -, -, -, -, b6⟩ := W (j + 1) (by omega)
          rw [h8] at b6
          have hv := (b6 _ hn.1 hn.2).1 hR2
          have hEi := eW_in (s := 0) (β := β) (mk := mk) (tone := ct 80 11) (tl := ct 81) (n := sz) (sz - (j + 1)) (nxB β st (ct 81 j / 10) (ct 81 j % 10))
          refine g_aload_n (q := 27) dX3_longestKept_26 rfl rfl ?_
          refine g_iload_n (q := 28) dX3_longestKept_27 rfl rfl ?_
          refine g_iload_n (q := 29) dX3_longestKept_28 rfl rfl ?_
          refine g_callV (q := 32) lX3_47 mX3_behindTold nX3_behindTold rfl (c_behindTold (d + 2) sh c2 S mt.2 (i := j) (by omega) (by omega) (by rw [f81]) htj hst.1 hst.2) (by first | assumption | exact S.at _ rfl) rfl rfl shLe.rf (rmOk.mk (by omega) (by first | exact shLe.rf | assumption)) (Nat.le_of_ble_eq_true rfl) dX3_longestKept_29 rfl rfl (kI fun r c3 hp => ?_)
          obtain ⟨rfl, rfl⟩ := hp
          rw [if_neg hyes.1]
          refine s_istore_n_4_2 (q := 33) dX3_longestKept_32 rfl rfl rfl ?_
          refine g_aload_n (q := 34) dX3_longestKept_33 rfl rfl ?_
          refine g_getA (q := 37) (kI := 3) fX3_15 (by first | assumption | exact S.at _ rfl) dX3_longestKept_34 rfl rfl (by first | assumption | exact L.at _ _ rfl | exact LK.at (by assumption) _ _ rfl | ((repeat first | rewrite [wr_na (by decide)] | rewrite [wr_nk (by decide)] | rewrite [wa_na (by decide)]); first | assumption | exact LK.at (by assumption) _ _ rfl) | exact rfl) ?_
          refine g_iload_n (q := 38) dX3_longestKept_37 rfl rfl ?_
          refine g_iconst (q := 39) dX3_longestKept_38 rfl ?_
          refine g_iadd (q := 40) dX3_longestKept_39 rfl ?_
          refine g_sipush (q := 43) dX3_longestKept_40 (by decide +kernel) rfl ?_
          refine g_imul (q := 44) dX3_longestKept_43 rfl ?_
          refine g_iload_n (q := 45) dX3_longestKept_44 rfl rfl ?_
          refine g_iadd (q := 46) dX3_longestKept_45 rfl ?_
          refine g_baload (q := 47) (by first | assumption | exact S.at _ rfl) (by omega) (by omega) (by omega) dX3_longestKept_46 rfl ?_
          rw [f82, show ((j : Int) + 1) * 700 = ((j + 1 : Nat) : Int) * 700 by omega, hv]
          refine g_bipush (q := 49) dX3_longestKept_47 (by decide +kernel) rfl ?_
          refine g_icmp_eq (q := 52) (tg := 56) dX3_longestKept_49 (by decide) rfl (fun c_49 => ?_) (fun c_49 => ?_)
          · have he : eW 0 β mk (ct 80 11) (ct 81) sz (sz - (j + 1)) (nxB β st (ct 81 j / 10) (ct 81 j % 10)) = 100 := by
              generalize eW 0 β mk (ct 80 11) (ct 81) sz (sz - (j + 1)) (nxB β st (ct 81 j / 10) (ct 81 j % 10)) = z at hEi c_49
              unfold w32 at c_49
              omega
            rw [if_pos he] at hval
            refine s_iinc_4_3 (q := 59) dX3_longestKept_56 rfl rfl rfl ?_
            refine g_goto (q := 9) dX3_longestKept_59 (by decide) ?_
            have := ih (j + 1) c3 best _ (by omega) mt hR2 hn hval
            rw [Int.natCast_succ] at this
            exact this
          · rw [if_neg (fun h => c_49 (by rw [h]))] at hval
            refine g_iload_n (q := 53) dX3_longestKept_52 rfl rfl ?_
            refine g_iconst (q := 54) dX3_longestKept_53 rfl ?_
            refine g_iadd (q := 55) dX3_longestKept_54 rfl ?_
            refine s_istore_n_4_1 (q := 56) dX3_longestKept_55 rfl rfl rfl ?_
            refine s_iinc_4_3 (q := 59) dX3_longestKept_56 rfl rfl rfl ?_
            refine g_goto (q := 9) dX3_longestKept_59 (by decide) ?_
            have := ih (j + 1) c3 _ _ (by omega) mt hR2 hn hval
            rw [Int.natCast_succ] at this
            exact this
  refine Mt.of rfl (Nat.le_of_ble_eq_true rfl) ?_
  show G _ 0 [some (.inr (.inr 80)), none, none, none] [] sh ct
  refine g_iconst (q := 1) dX3_longestKept_0 rfl ?_
  refine s_istore_n_4_1 (q := 2) dX3_longestKept_1 rfl rfl rfl ?_
  refine g_aload_n (q := 3) dX3_longestKept_2 rfl rfl ?_
  refine g_getI (q := 6) (kI := 10) fX3_90 (by first | assumption | exact S.at _ rfl) dX3_longestKept_3 rfl rfl ?_
  refine s_istore_n_4_2 (q := 7) dX3_longestKept_6 rfl rfl rfl ?_
  refine g_iconst (q := 8) dX3_longestKept_7 rfl ?_
  refine s_istore_n_4_3 (q := 9) dX3_longestKept_8 rfl rfl rfl ?_
  exact loop sz 0 ct 0 (ct 80 10) (by omega) M.rf rfl h10 rfl
theorem c_firstBaulk {b from' : Int} {β : Bk} {mk : Int → Int} {sz : Nat} (S : SH sh) (M : MV ct b β mk) (hsz : ct 80 2 = sz) (hs1 : sz ≤ 12) (hto : ∀ i : Nat, i < sz → toldOk β (ct 81 i)) (f0 : 0 ≤ from') (f1 : from' < 700) : Mt YX3_firstBaulk (d + 4) [.inr (.inr 80), .inl from'] sh sh ct (pI fun r c => r = fbS β mk (ct 81) sz sz from' ∧ MVt ct c b β mk) := by
  have L := M.L
  have hsy := M.sy
  have hme := M.me
  generalize hP : (pI fun r c => r = fbS β mk (ct 81) sz sz from' ∧ MVt ct c b β mk) = Po
  have loop : ∀ (k j : Nat) (c : mbCt) (st : Int), j + k = sz → MVt ct c b β mk → 0 ≤ st ∧ st < 700 → fbS β mk (ct 81) sz (sz - j) st = fbS β mk (ct 81) sz sz from' → G (mkK YX3_firstBaulk (d + 4) sh sh Po) 4 [some (.inr (.inr 80)), some (.inl from'), some (.inl st), some (.inl j)] [] sh c := by
    intro k
    induction k with
    | zero =>
      intro j c st hj hm hst hval
      have e80 : c 80 = ct 80 := hm.1 80 (by decide)
      have l2 : c 80 2 = sz := by rw [e80]; exact hsz
      refine g_iload_n (q := 5) dX3_firstBaulk_4 rfl rfl ?_
      refine g_aload_n (q := 6) dX3_firstBaulk_5 rfl rfl ?_
      refine g_getI (q := 9) (kI := 2) fX3_40 (by first | assumption | exact S.at _ rfl) dX3_firstBaulk_6 rfl rfl ?_
      rw [l2]
      refine g_icmp_ge (q := 12) (tg := 36) dX3_firstBaulk_9 (by decide) rfl (fun c_9 => ?_) (fun c_9 => ?_)
      · refine g_iconst (q := 37) dX3_firstBaulk_36 rfl ?_
        refine g_ireturn dX3_firstBaulk_37 rfl ?_
        rw [← hP]
        refine ⟨_, rfl, ?_, hm⟩
        rw [← hval, show sz - j = 0 by omega]
        rfl
      · exact absurd c_9 (by unfold w32; omega)
    | succ k ih =>
      intro j c st hj hm hst hval
      have e80 : c 80 = ct 80 := hm.1 80 (by decide)
      have e81 : c 81 = ct 81 := hm.1 81 (by decide)
      have l2 : c 80 2 = sz := by rw [e80]; exact hsz
      have htj := hto j (by omega)
      rw [fbS_s (show j < sz by omega)] at hval
      refine g_iload_n (q := 5) dX3_firstBaulk_4 rfl rfl ?_
      refine g_aload_n (q := 6) dX3_firstBaulk_5 rfl rfl ?_
      refine g_getI (q := 9) (kI := 2) fX3_40 (by first | assumption | exact S.at _ rfl) dX3_firstBaulk_6 rfl rfl ?_
      rw [l2]
      refine g_icmp_ge (q := 12) (tg := 36) dX3_firstBaulk_9 (by decide) rfl (fun c_9 => ?_) (fun c_9 => ?_)
      · exact absurd c_9 (by unfold w32; omega)
      · refine g_aload_n (q := 13) dX3_firstBaulk_12 rfl rfl ?_
        refine g_iload_n (q := 14) dX3_firstBaulk_13 rfl rfl ?_
        refine g_iload_n (q := 15) dX3_firstBaulk_14 rfl rfl ?_
        refine g_callV (q := 18) lX3_43 mX3_canStay nX3_canStay rfl (c_canStay d sh c S hm.2 (i := j) (by omega) (by omega) (by rw [e81]) htj hst.1 hst.2) (by first | assumption | exact S.at _ rfl) rfl rfl shLe.rf (rmOk.mk (by omega) (by first | exact shLe.rf | assumption)) (Nat.le_of_ble_eq_true rfl) dX3_firstBaulk_15 rfl rfl (kI fun r c2 hp => ?_)
        obtain ⟨rfl, m1⟩ := hp
        have mt := hm.tr m1
        have f81 : c2 81 = ct 81 := mt.1 81 (by decide)
        refine g_if_ne (q := 21) (tg := 23) dX3_firstBaulk_18 (by decide) rfl (fun c_18 => ?_) (fun c_18 => ?_)
        · have hyes : ct 81 j ≠ -1 ∧ canB β mk st (tIdx (ct 81 j)) = true := by
            by_cases h : ct 81 j ≠ -1 ∧ canB β mk st (tIdx (ct 81 j)) = true
            · exact h
            · rw [← b01_f h] at c_18
              exact absurd rfl c_18
          rw [if_pos hyes] at hval
          have hd2 := tIdx_d htj hyes.1 hsy.2
          have hlt : tIdx (ct 81 j) < 48 := by
            rcases htj with h | ⟨a, b', c'⟩
            · exact absurd h hyes.1
            · unfold tIdx
              omega
          have hn : 0 ≤ nxB β st (ct 81 j / 10) (ct 81 j % 10) ∧ nxB β st (ct 81 j / 10) (ct 81 j % 10) < 700 := by rw [← hd2.1, ← hd2.2]; exact nxB_in (by omega) (by omega)
          refine g_aload_n (q := 24) dX3_firstBaulk_23 rfl rfl ?_
          refine g_iload_n (q := 25) dX3_firstBaulk_24 rfl rfl ?_
          refine g_iload_n (q := 26) dX3_firstBaulk_25 rfl rfl ?_
          refine g_callV (q := 29) lX3_47 mX3_behindTold nX3_behindTold rfl (c_behindTold (d + 2) sh c2 S mt.2 (i := j) (by omega) (by omega) (by rw [f81]) htj hst.1 hst.2) (by first | assumption | exact S.at _ rfl) rfl rfl shLe.rf (rmOk.mk (by omega) (by first | exact shLe.rf | assumption)) (Nat.le_of_ble_eq_true rfl) dX3_firstBaulk_26 rfl rfl (kI fun r c3 hp => ?_)
          obtain ⟨rfl, rfl⟩ := hp
          rw [if_neg hyes.1]
          refine s_istore_n_4_2 (q := 30) dX3_firstBaulk_29 rfl rfl rfl ?_
          refine s_iinc_4_3 (q := 33) dX3_firstBaulk_30 rfl rfl rfl ?_
          refine g_goto (q := 4) dX3_firstBaulk_33 (by decide) ?_
          have := ih (j + 1) c3 _ (by omega) mt hn hval
          rw [Int.natCast_succ] at this
          exact this
        · have hno : ¬ (ct 81 j ≠ -1 ∧ canB β mk st (tIdx (ct 81 j)) = true) := by
            intro h
            rw [← b01_t h] at c_18
            exact absurd c_18 (by decide)
          rw [if_neg hno] at hval
          refine g_iload_n (q := 22) dX3_firstBaulk_21 rfl rfl ?_
          refine g_ireturn dX3_firstBaulk_22 rfl ?_
          rw [← hP]
          exact ⟨_, rfl, hval, mt⟩
  refine Mt.of rfl (Nat.le_of_ble_eq_true rfl) ?_
  show G _ 0 [some (.inr (.inr 80)), some (.inl from'), none, none] [] sh ct
  refine g_iload_n (q := 1) dX3_firstBaulk_0 rfl rfl ?_
  refine s_istore_n_4_2 (q := 2) dX3_firstBaulk_1 rfl rfl rfl ?_
  refine g_iconst (q := 3) dX3_firstBaulk_2 rfl ?_
  refine s_istore_n_4_3 (q := 4) dX3_firstBaulk_3 rfl rfl rfl ?_
  exact loop sz 0 ct from' (by omega) M.rf ⟨f0, f1⟩ rfl
theorem or_pow {z k : Nat} (hz : z < 281474976710656) (h : k < 48) : orL (z : Int) (2 ^ k) = ((z ||| 2 ^ k : Nat) : Int) ∧ z ||| 2 ^ k < 281474976710656 := by
  have hp : (2 : Nat) ^ k < 2 ^ 48 := Nat.pow_lt_pow_right (by decide) h
  have ho : z ||| 2 ^ k < 2 ^ 48 := Nat.or_lt_two_pow (by omega) hp
  refine ⟨?_, by omega⟩
  unfold orL
  have e2 : ((2 : Int) ^ k % 18446744073709551616).toNat = 2 ^ k := by
    have : (2 : Int) ^ k = ((2 ^ k : Nat) : Int) := by rw [Int.natCast_pow]; rfl
    rw [this]
    generalize (2 : Nat) ^ k = p at hp
    omega
  rw [e2, show ((z : Int) % 18446744073709551616).toNat = z by omega]
theorem m86 {x : Nat} (h : x < 48) : 0 ≤ ((x / 8 : Nat) : Int) ∧ ((x / 8 : Nat) : Int) < 6 ∧ 0 ≤ ((x % 8 : Nat) : Int) ∧ ((x % 8 : Nat) : Int) < 8 ∧ (8 * ((x / 8 : Nat) : Int) + ((x % 8 : Nat) : Int)).toNat = x := by omega
def fitP (s : Int) (β : Bk) (mk : Int → Int) (tone : Int) (tl : Int → Int) (n : Nat) (start : Int) (i k : Nat) : Prop := ∃ st, Rch s β mk tl start i st ∧ k ∈ brL (alwN s β mk st (tl i)) 48 ∧ eW s β mk tone tl n (n - (i + 1)) (nxB β st (k / 8 : Nat) (k % 8 : Nat)) + cost s (tl i) k = 0
theorem c_minutesThatFit {b : Int} {β : Bk} {mk : Int → Int} {sz i : Nat} (S : SH sh) (M : MV ct b β mk) (hi : i < sz) (hsz : ct 80 2 = sz) (hs1 : sz ≤ 12) (hto : ∀ i : Nat, i < sz → toldOk β (ct 81 i)) (h8 : ct 80 8 = 0 ∨ ct 80 8 = 1) (W : WG ct β mk sz) : Mt YX3_minutesThatFit (d + 4) [.inr (.inr 80), .inl i] sh sh ct (pL fun r c => (∃ Z : Nat, r = Z ∧ Z < 281474976710656 ∧ ∀ k, k < 48 → (Z.testBit k = true ↔ fitP (ct 80 8) β mk (ct 80 11) (ct 81) sz (ct 80 10) i k)) ∧ MVt ct c b β mk) := by
  have L := M.L
  have hme := M.me
  have s75 : shA sh 75 = some (20, 48) := S.at _ rfl
  have s83 : shA sh 83 = some (20, 9100) := S.at _ rfl
  have s84 : shA sh 84 = some (20, 14) := S.at _ rfl
  obtain ⟨p, m, a1, a2, a3, a4, a5, a6⟩ := W i (by omega)
  obtain ⟨p2, m2, -, -, -, -, -, b6⟩ := W (i + 1) (by omega)
  generalize hP : (pL fun r c => (∃ Z : Nat, r = Z ∧ Z < 281474976710656 ∧ ∀ k, k < 48 → (Z.testBit k = true ↔ fitP (ct 80 8) β mk (ct 80 11) (ct 81) sz (ct 80 10) i k)) ∧ MVt ct c b β mk) = Po
  generalize hs8 : ct 80 8 = s at *
  generalize hs11 : ct 80 11 = tone at *
  generalize hs10 : ct 80 10 = start at *
  have outer : ∀ (k j Z : Nat) (c : mbCt) (o5 o6 o7 : Option gV), j + k = m → MVt ct c b β mk → Z < 281474976710656 → (∀ k, k < 48 → (Z.testBit k = true ↔ ∃ t, t < j ∧ k ∈ brL (alwN s β mk (ct 83 ((p + t : Nat) : Int)) (ct 81 i)) 48 ∧ eW s β mk tone (ct 81) sz (sz - (i + 1)) (nxB β (ct 83 ((p + t : Nat) : Int)) (k / 8 : Nat) (k % 8 : Nat)) + cost s (ct 81 i) k = 0)) → G (mkK YX3_minutesThatFit (d + 4) sh sh Po) 24 [some (.inr (.inr 80)), some (.inl i), some (.inr (.inl Z)), none, some (.inl ((p + j : Nat) : Int)), o5, o6, o7] [] sh c := by
    intro k
    induction k with
    | zero =>
      intro j Z c o5 o6 o7 hj hm hZ hb
      have e84 : c 84 = ct 84 := hm.1 84 (by decide)
      have Lc := hm.2.L
      have hjm : j = m := by omega
      subst hjm
      refine g_iload (q := 26) dX3_minutesThatFit_24 rfl rfl ?_
      refine g_aload_n (q := 27) dX3_minutesThatFit_26 rfl rfl ?_
      refine g_getA (q := 30) (kI := 5) fX3_22 (by first | assumption | exact S.at _ rfl) dX3_minutesThatFit_27 rfl rfl (by first | assumption | exact L.at _ _ rfl | exact LK.at (by assumption) _ _ rfl | ((repeat first | rewrite [wr_na (by decide)] | rewrite [wr_nk (by decide)] | rewrite [wa_na (by decide)]); first | assumption | exact LK.at (by assumption) _ _ rfl) | exact rfl) ?_
      refine g_iload_n (q := 31) dX3_minutesThatFit_30 rfl rfl ?_
      refine g_iconst (q := 32) dX3_minutesThatFit_31 rfl ?_
      refine g_iadd (q := 33) dX3_minutesThatFit_32 rfl ?_
      refine g_iaload (q := 34) (by first | assumption | exact S.at _ rfl) (by omega) (by omega) (by omega) dX3_minutesThatFit_33 rfl ?_
      rw [e84, a2]
      refine g_icmp_ge (q := 37) (tg := 111) dX3_minutesThatFit_34 (by decide) rfl (fun c_34 => ?_) (fun c_34 => ?_)
      · refine g_lload_n (q := 112) dX3_minutesThatFit_111 rfl rfl ?_
        refine g_lreturn dX3_minutesThatFit_112 rfl ?_
        rw [← hP]
        refine ⟨_, rfl, ⟨Z, rfl, hZ, fun k hk => ?_⟩, hm⟩
        rw [hb k hk]
        constructor
        · rintro ⟨t, t1, t2, t3⟩
          exact ⟨_, (a4 t t1).2.2, t2, t3⟩
        · rintro ⟨st, h1, h2, h3⟩
          obtain ⟨t, t1, t2⟩ := a5 st h1
          exact ⟨t, t1, by rw [t2]; exact h2, by rw [t2]; exact h3⟩
      · exact absurd c_34 (Int.lt_irrefl _)
    | succ k ih =>
      intro j Z c o5 o6 o7 hj hm hZ hb
      have e84 : c 84 = ct 84 := hm.1 84 (by decide)
      have e83 : c 83 = ct 83 := hm.1 83 (by decide)
      have e80 : c 80 = ct 80 := hm.1 80 (by decide)
      have e81 : c 81 = ct 81 := hm.1 81 (by decide)
      have e82 : c 82 = ct 82 := hm.1 82 (by decide)
      have Lc := hm.2.L
      have hst := a4 j (by omega)
      generalize hstt : ct 83 ((p + j : Nat) : Int) = st at hst
      refine g_iload (q := 26) dX3_minutesThatFit_24 rfl rfl ?_
      refine g_aload_n (q := 27) dX3_minutesThatFit_26 rfl rfl ?_
      refine g_getA (q := 30) (kI := 5) fX3_22 (by first | assumption | exact S.at _ rfl) dX3_minutesThatFit_27 rfl rfl (by first | assumption | exact L.at _ _ rfl | exact LK.at (by assumption) _ _ rfl | ((repeat first | rewrite [wr_na (by decide)] | rewrite [wr_nk (by decide)] | rewrite [wa_na (by decide)]); first | assumption | exact LK.at (by assumption) _ _ rfl) | exact rfl) ?_
      refine g_iload_n (q := 31) dX3_minutesThatFit_30 rfl rfl ?_
      refine g_iconst (q := 32) dX3_minutesThatFit_31 rfl ?_
      refine g_iadd (q := 33) dX3_minutesThatFit_32 rfl ?_
      refine g_iaload (q := 34) (by first | assumption | exact S.at _ rfl) (by omega) (by omega) (by omega) dX3_minutesThatFit_33 rfl ?_
      rw [e84, a2]
      refine g_icmp_ge (q := 37) (tg := 111) dX3_minutesThatFit_34 (by decide) rfl (fun c_34 => ?_) (fun c_34 => ?_)
      · exact absurd c_34 (by unfold w32; omega)
      · refine g_aload_n (q := 38) dX3_minutesThatFit_37 rfl rfl ?_
        refine g_iload_n (q := 39) dX3_minutesThatFit_38 rfl rfl ?_
        refine g_aload_n (q := 40) dX3_minutesThatFit_39 rfl rfl ?_
        refine g_getA (q := 43) (kI := 4) fX3_19 (by first | assumption | exact S.at _ rfl) dX3_minutesThatFit_40 rfl rfl (by first | assumption | exact L.at _ _ rfl | exact LK.at (by assumption) _ _ rfl | ((repeat first | rewrite [wr_na (by decide)] | rewrite [wr_nk (by decide)] | rewrite [wa_na (by decide)]); first | assumption | exact LK.at (by assumption) _ _ rfl) | exact rfl) ?_
        refine g_iload (q := 45) dX3_minutesThatFit_43 rfl rfl ?_
        refine g_iaload (q := 46) (by first | assumption | exact S.at _ rfl) (by omega) (by omega) (by omega) dX3_minutesThatFit_45 rfl ?_
        rw [e83, hstt]
        refine g_callV (q := 49) lX3_83 mX3_branchFor nX3_branchFor rfl (c_branchFor d sh c S hm.2 (i := i) (by omega) (by omega) (by rw [e81]) (hto i (by omega)) hst.1 hst.2.1 (by rw [e80, hs8]; exact h8)) (by first | assumption | exact S.at _ rfl) rfl rfl shLe.rf (rmOk.mk (by omega) (by first | exact shLe.rf | assumption)) (Nat.le_of_ble_eq_true rfl) dX3_minutesThatFit_46 rfl rfl (kI fun r c2 hp => ?_)
        obtain ⟨rfl, r75, r76, m1⟩ := hp
        rw [e80, hs8] at r75 r76 ⊢
        have mt := hm.tr m1
        have L2 := mt.2.L
        have f80 : c2 80 = ct 80 := mt.1 80 (by decide)
        have f81 : c2 81 = ct 81 := mt.1 81 (by decide)
        have f82 : c2 82 = ct 82 := mt.1 82 (by decide)
        generalize hB : brL (alwN s β mk st (ct 81 i)) 48 = l at r75 r76
        have hl : l.length ≤ 48 := by rw [← hB]; exact brL_len _ _
        have hlb : ∀ x ∈ l, x < 48 := fun x hx => by rw [← hB] at hx; exact (brL_mem.mp hx).1
        have inner : ∀ (k2 u Z : Nat) (o7 : Option gV), u + k2 = l.length → Z < 281474976710656 → (∀ k, k < 48 → (Z.testBit k = true ↔ ((∃ t, t < j ∧ k ∈ brL (alwN s β mk (ct 83 ((p + t : Nat) : Int)) (ct 81 i)) 48 ∧ eW s β mk tone (ct 81) sz (sz - (i + 1)) (nxB β (ct 83 ((p + t : Nat) : Int)) (k / 8 : Nat) (k % 8 : Nat)) + cost s (ct 81 i) k = 0) ∨ (k ∈ l.take u ∧ eW s β mk tone (ct 81) sz (sz - (i + 1)) (nxB β st (k / 8 : Nat) (k % 8 : Nat)) + cost s (ct 81 i) k = 0)))) → G (mkK YX3_minutesThatFit (d + 4) sh sh Po) 54 [some (.inr (.inr 80)), some (.inl i), some (.inr (.inl Z)), none, some (.inl ((p + j : Nat) : Int)), some (.inl (l.length : Nat)), some (.inl u), o7] [] sh c2 := by
          intro k2
          induction k2 with
          | zero =>
            intro u Z o7 hu hZ hb2
            refine g_iload (q := 56) dX3_minutesThatFit_54 rfl rfl ?_
            refine g_iload (q := 58) dX3_minutesThatFit_56 rfl rfl ?_
            refine g_icmp_ge (q := 61) (tg := 105) dX3_minutesThatFit_58 (by decide) rfl (fun c_58 => ?_) (fun c_58 => ?_)
            · refine s_iinc_8_4 (q := 108) dX3_minutesThatFit_105 rfl rfl rfl ?_
              refine g_goto (q := 24) dX3_minutesThatFit_108 (by decide) ?_
              have := ih (j + 1) Z c2 (some (.inl (l.length : Nat))) (some (.inl u)) o7 (by omega) mt hZ ?_
              · rw [show ((p + (j + 1) : Nat) : Int) = ((p + j : Nat) : Int) + 1 by omega] at this
                exact this
              · intro k hk
                rw [hb2 k hk, show u = l.length by omega, List.take_length]
                constructor
                · rintro (⟨t, t1, t2, t3⟩ | ⟨t1, t2⟩)
                  · exact ⟨t, by omega, t2, t3⟩
                  · exact ⟨j, by omega, by rw [hstt, hB]; exact t1, by rw [hstt]; exact t2⟩
                · rintro ⟨t, t1, t2, t3⟩
                  by_cases e : t = j
                  · subst e
                    rw [hstt, hB] at t2
                    rw [hstt] at t3
                    exact Or.inr ⟨t2, t3⟩
                  · exact Or.inl ⟨t, by omega, t2, t3⟩
            · exact absurd c_58 (by unfold w32; omega)
          | succ k2 ih2 =>
            intro u Z o7 hu hZ hb2
            have hul : u < l.length := by omega
            have hmem := List.getElem_mem hul
            have hx := hlb _ hmem
            have hn := brL_nx (by rw [hB]; exact hmem) β st
            have v75 : c2 75 u = mnt l[u] := r75 u hul
            have hv : c2 82 ((i + 1) * 700 + nxB β st (l[u] / 8 : Nat) (l[u] % 8 : Nat)) = eW s β mk tone (ct 81) sz (sz - (i + 1)) (nxB β st (l[u] / 8 : Nat) (l[u] % 8 : Nat)) := by
              rw [f82]
              exact (b6 _ hn.1 hn.2).1 ⟨st, l[u], hst.2.2, by rw [hB]; exact hmem, rfl⟩
            have hEi := eW_in (s := s) (β := β) (mk := mk) (tone := tone) (tl := ct 81) (n := sz) (sz - (i + 1)) (nxB β st (l[u] / 8 : Nat) (l[u] % 8 : Nat))
            have hcs := cost_in s (ct 81 i) l[u]
            have htk : ∀ k, k ∈ l.take (u + 1) ↔ (k ∈ l.take u ∨ k = l[u]) := by
              intro k
              rw [List.take_add_one, List.getElem?_eq_getElem hul, List.mem_append]
              simp
            refine g_iload (q := 56) dX3_minutesThatFit_54 rfl rfl ?_
            refine g_iload (q := 58) dX3_minutesThatFit_56 rfl rfl ?_
            refine g_icmp_ge (q := 61) (tg := 105) dX3_minutesThatFit_58 (by decide) rfl (fun c_58 => ?_) (fun c_58 => ?_)
            · exact absurd c_58 (by unfold w32; omega)
            · refine g_aload_n (q := 62) dX3_minutesThatFit_61 rfl rfl ?_
              refine g_iload_n (q := 63) dX3_minutesThatFit_62 rfl rfl ?_
              refine g_iload (q := 65) dX3_minutesThatFit_63 rfl rfl ?_
              refine g_callV (q := 68) lX3_108 mX3_othersBy nX3_othersBy rfl (c_othersBy (d + 3) sh c2 (b := b) (mk := mk) (v := eW s β mk tone (ct 81) sz (sz - (i + 1)) (nxB β st (l[u] / 8 : Nat) (l[u] % 8 : Nat))) S L2 (i := i) (by omega) (by omega) (by rw [f81]) (hto i (by omega)) hme.2 (by rw [f80, hs8]; exact h8) r75 r76 hul hl hlb hv) (by first | assumption | exact S.at _ rfl) rfl rfl shLe.rf (rmOk.mk (by omega) (by first | exact shLe.rf | assumption)) (Nat.le_of_ble_eq_true rfl) dX3_minutesThatFit_65 rfl rfl (kI fun r c3 hp => ?_)
              obtain ⟨rfl, rfl⟩ := hp
              rw [f80, hs8]
              refine g_if_ne (q := 71) (tg := 99) dX3_minutesThatFit_68 (by decide) rfl (fun c_68 => ?_) (fun c_68 => ?_)
              · refine s_iinc_8_6 (q := 102) dX3_minutesThatFit_99 rfl rfl rfl ?_
                refine g_goto (q := 54) dX3_minutesThatFit_102 (by decide) ?_
                have := ih2 (u + 1) Z o7 (by omega) hZ ?_
                · rw [Int.natCast_succ] at this
                  exact this
                · intro k hk
                  rw [hb2 k hk, htk k]
                  constructor
                  · rintro (h | ⟨h1, h2⟩)
                    · exact Or.inl h
                    · exact Or.inr ⟨Or.inl h1, h2⟩
                  · rintro (h | ⟨h1 | h1, h2⟩)
                    · exact Or.inl h
                    · exact Or.inr ⟨h1, h2⟩
                    · subst h1
                      exact absurd (by rw [h2]; rfl) c_68
              · have h0 : eW s β mk tone (ct 81) sz (sz - (i + 1)) (nxB β st (l[u] / 8 : Nat) (l[u] % 8 : Nat)) + cost s (ct 81 i) l[u] = 0 := by
                  generalize eW s β mk tone (ct 81) sz (sz - (i + 1)) (nxB β st (l[u] / 8 : Nat) (l[u] % 8 : Nat)) = z at hEi c_68 ⊢
                  unfold w32 at c_68
                  omega
                have hm8 : 0 ≤ mnt l[u] ∧ mnt l[u] < 60 ∧ mnt l[u] / 10 = ((l[u] / 8 : Nat) : Int) ∧ mnt l[u] % 10 = ((l[u] % 8 : Nat) : Int) := by unfold mnt; omega
                have e1 : (w32 (mnt l[u])).tdiv (w32 10) = ((l[u] / 8 : Nat) : Int) := by rw [w32_id (by omega) (by omega), td_pos hm8.1, ← hm8.2.2.1]; rfl
                have e2 : (w32 (mnt l[u])).tmod (w32 10) = ((l[u] % 8 : Nat) : Int) := by rw [w32_id (by omega) (by omega), tm_pos hm8.1, ← hm8.2.2.2]; rfl
                have hop := or_pow hZ hx
                refine g_aload_n (q := 72) dX3_minutesThatFit_71 rfl rfl ?_
                refine g_getO (q := 75) (kI := 0) fX3_36 (SH.at S _ rfl) dX3_minutesThatFit_72 rfl rfl (LK.at L2 _ _ rfl) ?_
                refine g_getA (q := 78) (kI := 8) fX3_116 (SH.at S _ rfl) dX3_minutesThatFit_75 rfl rfl (LK.at L2 _ _ rfl) ?_
                refine g_iload (q := 80) dX3_minutesThatFit_78 rfl rfl ?_
                refine g_iaload (q := 81) (SH.at S _ rfl) (by omega) (by omega) (by omega) dX3_minutesThatFit_80 rfl ?_
                rw [v75]
                refine s_istore_8_7 (q := 83) dX3_minutesThatFit_81 rfl rfl rfl ?_
                refine g_lload_n (q := 84) dX3_minutesThatFit_83 rfl rfl ?_
                refine g_iload (q := 86) dX3_minutesThatFit_84 rfl rfl ?_
                refine g_bipush (q := 88) dX3_minutesThatFit_86 (by decide +kernel) rfl ?_
                refine g_idiv (q := 89) dX3_minutesThatFit_88 (by decide) rfl ?_
                rw [e1]
                refine g_iload (q := 91) dX3_minutesThatFit_89 rfl rfl ?_
                refine g_bipush (q := 93) dX3_minutesThatFit_91 (by decide +kernel) rfl ?_
                refine g_irem (q := 94) dX3_minutesThatFit_93 (by decide) rfl ?_
                rw [e2]
                refine g_callSN (q := 97) lX3_64 mX11_minuteBit sX11_minuteBit rfl (c_minuteBit (d + 3) sh c3 (m := ((l[u] / 8 : Nat) : Int)) (s := ((l[u] % 8 : Nat) : Int)) (m86 hx).1 (m86 hx).2.1 (m86 hx).2.2.1 (m86 hx).2.2.2.1) shLe.rf (rmOk.mk (by omega) (by first | exact shLe.rf | assumption)) (Nat.le_of_ble_eq_true rfl) dX3_minutesThatFit_94 rfl rfl (kL fun r c4 hp => ?_)
                obtain ⟨rfl, rfl⟩ := hp
                rw [(m86 hx).2.2.2.2]
                refine g_lor (q := 98) dX3_minutesThatFit_97 rfl ?_
                rw [hop.1]
                refine s_lstore_n_8_2 (q := 99) dX3_minutesThatFit_98 rfl rfl rfl ?_
                refine s_iinc_8_6 (q := 102) dX3_minutesThatFit_99 rfl rfl rfl ?_
                refine g_goto (q := 54) dX3_minutesThatFit_102 (by decide) ?_
                have := ih2 (u + 1) (Z ||| 2 ^ l[u]) (some (.inl (mnt l[u]))) (by omega) hop.2 ?_
                · rw [Int.natCast_succ] at this
                  exact this
                · intro k hk
                  rw [Nat.testBit_or, Bool.or_eq_true, hb2 k hk, Nat.testBit_two_pow, decide_eq_true_eq, htk k]
                  constructor
                  · rintro ((h | ⟨h1, h2⟩) | h)
                    · exact Or.inl h
                    · exact Or.inr ⟨Or.inl h1, h2⟩
                    · subst h
                      exact Or.inr ⟨Or.inr rfl, h0⟩
                  · rintro (h | ⟨h1 | h1, h2⟩)
                    · exact Or.inl (Or.inl h)
                    · exact Or.inl (Or.inr ⟨h1, h2⟩)
                    · exact Or.inr h1.symm
        refine s_istore_8_5 (q := 51) dX3_minutesThatFit_49 rfl rfl rfl ?_
        refine g_iconst (q := 52) dX3_minutesThatFit_51 rfl ?_
        refine s_istore_8_6 (q := 54) dX3_minutesThatFit_52 rfl rfl rfl ?_
        refine inner l.length 0 Z o7 (by omega) hZ ?_
        intro k hk
        rw [hb k hk]
        simp
  refine Mt.of rfl (Nat.le_of_ble_eq_true rfl) ?_
  show G _ 0 [some (.inr (.inr 80)), some (.inl i), none, none, none, none, none, none] [] sh ct
  refine g_lconst0 (q := 1) dX3_minutesThatFit_0 rfl ?_
  refine s_lstore_n_8_2 (q := 2) dX3_minutesThatFit_1 rfl rfl rfl ?_
  refine g_iload_n (q := 3) dX3_minutesThatFit_2 rfl rfl ?_
  refine g_if_lt (q := 6) (tg := 14) dX3_minutesThatFit_3 (by decide) rfl (fun c_3 => ?_) (fun c_3 => ?_)
  · exact absurd c_3 (by unfold w32; omega)
  · refine g_iload_n (q := 7) dX3_minutesThatFit_6 rfl rfl ?_
    refine g_aload_n (q := 8) dX3_minutesThatFit_7 rfl rfl ?_
    refine g_getI (q := 11) (kI := 2) fX3_40 (by first | assumption | exact S.at _ rfl) dX3_minutesThatFit_8 rfl rfl ?_
    rw [hsz]
    refine g_icmp_lt (q := 14) (tg := 16) dX3_minutesThatFit_11 (by decide) rfl (fun c_11 => ?_) (fun c_11 => ?_)
    · refine g_aload_n (q := 17) dX3_minutesThatFit_16 rfl rfl ?_
      refine g_getA (q := 20) (kI := 5) fX3_22 (by first | assumption | exact S.at _ rfl) dX3_minutesThatFit_17 rfl rfl (by first | assumption | exact L.at _ _ rfl | exact LK.at (by assumption) _ _ rfl | ((repeat first | rewrite [wr_na (by decide)] | rewrite [wr_nk (by decide)] | rewrite [wa_na (by decide)]); first | assumption | exact LK.at (by assumption) _ _ rfl) | exact rfl) ?_
      refine g_iload_n (q := 21) dX3_minutesThatFit_20 rfl rfl ?_
      refine g_iaload (q := 22) (by first | assumption | exact S.at _ rfl) (by omega) (by omega) (by omega) dX3_minutesThatFit_21 rfl ?_
      rw [a1]
      refine s_istore_8_4 (q := 24) dX3_minutesThatFit_22 rfl rfl rfl ?_
      have := outer m 0 0 ct none none none (by omega) M.rf (by omega) ?_
      · exact this
      · intro k hk
        rw [Nat.zero_testBit]
        constructor
        · intro h
          cases h
        · rintro ⟨t, t1, -⟩
          omega
    · exact absurd c_11 (by unfold w32; omega)
end
