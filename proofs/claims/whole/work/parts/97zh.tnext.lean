/-! the reference's reader: the next token -/
theorem by_lt {x : Int} (h0 : -128 ≤ x) (h1 : x < 128) : (isLt (x % 256) ↔ isLt x) ∧ (isDg (x % 256) ↔ isDg x) ∧ (isWs (x % 256) ↔ isWs x) ∧ (0 ≤ x % 256 ∧ x % 256 < 256) ∧ (0 ≤ x → x % 256 = x) ∧ (x < 0 → 128 ≤ x % 256) := by
  unfold isLt isDg isWs
  omega
def sgK (v : Int) : Nat → Int
  | 0 => 25
  | t + 1 => if v = strB 2 t then 30 + (t : Int) else sgK v t
theorem sgK_t : ∀ j : Fin 12, sgK (strB 2 j.val) 12 = kR (strB 2 j.val) := by decide +kernel
theorem sgK_no {v : Int} : ∀ t : Nat, (∀ j : Nat, j < t → v ≠ strB 2 j) → sgK v t = 25
  | 0, _ => rfl
  | t + 1, h => by
    show (if v = strB 2 t then _ else _) = _
    rw [if_neg (h t (by omega))]
    exact sgK_no t (fun j hj => h j (by omega))
theorem r_sn : strN 2 = 12 := rfl
theorem kR_w : ∀ w : Fin 18, kR (128 + (w.val : Int)) = ((rW w.val : Nat) : Int) := by decide +kernel
/-- nothing but the reader's place has changed; it lies at a, behind it e -/
def nxS (a e : Int) (ct c : mbCt) : Prop := c 92 6 = a ∧ c 92 7 = e ∧ (∀ j, j ≠ 6 → j ≠ 7 → j ≠ 9 → j ≠ 10 → c 92 j = ct 92 j) ∧ eqBut [92] ct c
theorem nxS.L {a e : Int} {ct c : mbCt} (L : LK ct) (h : nxS a e ct c) : LK c := by
  intro x k v hv
  by_cases hx : x = 92
  · subst hx
    by_cases h6 : k = 6
    · subst h6; cases hv
    · by_cases h7 : k = 7
      · subst h7; cases hv
      · by_cases h9 : k = 9
        · subst h9; cases hv
        · by_cases h10 : k = 10
          · subst h10; cases hv
          · rw [h.2.2.1 k h6 h7 h9 h10]; exact L _ _ _ hv
  · rw [h.2.2.2 x (by simp; omega)]
    exact L _ _ _ hv
theorem nxS.at {a e : Int} {ct c : mbCt} (h : nxS a e ct c) (v : Int) : nxS v e ct (wr c 92 6 v) := ⟨wr_eq, by rw [wr_nk (by decide)]; exact h.2.1, fun j h6 h7 h9 h10 => by rw [wr_nk h6]; exact h.2.2.1 j h6 h7 h9 h10, h.2.2.2.wr (by decide)⟩
theorem nxS.be {a e : Int} {ct c : mbCt} (h : nxS a e ct c) (v : Int) : nxS a v ct (wr c 92 7 v) := ⟨by rw [wr_nk (by decide)]; exact h.1, wr_eq, fun j h6 h7 h9 h10 => by rw [wr_nk h7]; exact h.2.2.1 j h6 h7 h9 h10, h.2.2.2.wr (by decide)⟩
theorem nxS.kd {a e : Int} {ct c : mbCt} (h : nxS a e ct c) (v : Int) : nxS a e ct (wr c 92 9 v) := ⟨by rw [wr_nk (by decide)]; exact h.1, by rw [wr_nk (by decide)]; exact h.2.1, fun j h6 h7 h9 h10 => by rw [wr_nk h9]; exact h.2.2.1 j h6 h7 h9 h10, h.2.2.2.wr (by decide)⟩
theorem nxS.nm {a e : Int} {ct c : mbCt} (h : nxS a e ct c) (v : Int) : nxS a e ct (wr c 92 10 v) := ⟨by rw [wr_nk (by decide)]; exact h.1, by rw [wr_nk (by decide)]; exact h.2.1, fun j h6 h7 h9 h10 => by rw [wr_nk h10]; exact h.2.2.1 j h6 h7 h9 h10, h.2.2.2.wr (by decide)⟩
section
variable (d : Nat) (sh : mbSh) (ct : mbCt) {n p s e k : Int} {f : Int → Int}
theorem tw_seeN {c : mbCt} {a b x : Int} (S : SH sh) (L : LK ct) (h8 : ct 92 8 = n) (n0 : 0 ≤ n) (n1 : n ≤ 900) (hf : tpR ct f n) (N : nxS a b ct c) (h0 : 0 ≤ x) (h1 : x ≤ n) : Mt YX12_see d [.inr (.inr 92), .inl x] sh sh c (pI fun r c' => r = (if x < n then f x % 256 else -1) ∧ c' = c) := by
  refine (tw_see d sh c S (N.L L) (n := n) (by rw [N.2.2.1 8 (by decide) (by decide) (by decide) (by decide)]; exact h8) n0 n1 h0 (by omega)).imp ?_
  rintro r c' ⟨v, rfl, hv, hc⟩
  refine ⟨v, rfl, ?_, hc⟩
  rw [hv]
  by_cases h : x < n
  · rw [if_pos h, if_pos h, N.2.2.2 95 (by decide)]
    exact (hf x h0 h).1
  · rw [if_neg h, if_neg h]
theorem tw_next (S : SH sh) (L : LK ct) (h7 : ct 92 7 = p) (h8 : ct 92 8 = n) (p0 : 0 ≤ p) (n1 : n ≤ 900) (hf : tpR ct f n) (hk : tokR f n p s e k) : Mt YX12_next (d + 5) [.inr (.inr 92)] sh sh ct (pN fun c => (c 92 9 = kR k ∧ (1000 ≤ k → c 92 10 = k - 1000)) ∧ nxS s e ct c) := by
  have hle := hk.le
  obtain ⟨hws, hcase⟩ := hk
  have hs1 := hws.1
  have n0 : 0 ≤ n := by omega
  have L0 := L
  generalize hP : (pN fun c => (c 92 9 = kR k ∧ (1000 ≤ k → c 92 10 = k - 1000)) ∧ nxS s e ct c) = Po
  have N0 : nxS (ct 92 6) p ct ct := ⟨rfl, h7, fun _ _ _ _ _ => rfl, eqBut.rf⟩
  /- what lies there -/
  have big : s < n → ∀ c, nxS s s ct c → G (mkK YX12_next (d + 5) sh sh Po) 75 [some (.inr (.inr 92)), none] [] sh c := by
    intro hsn c N
    have L0 := L
    have L := N.L L
    have hfs := hf s (by omega) hsn
    obtain ⟨b1, b2, b3, b4, b5, b6⟩ := by_lt hfs.2.1 hfs.2.2
    have hc2 : (isLt (f s) ∧ runE isLt f n s e ∧ kindW f s e k) ∨ (isDg (f s) ∧ runE isDg f n s e ∧ k = digK f s e) ∨ (¬ isLt (f s) ∧ ¬ isDg (f s) ∧ e = s + 1 ∧ ((sgn (f s) ∧ k = f s) ∨ (¬ sgn (f s) ∧ k = 202))) := by
      rcases hcase with ⟨h, -, -⟩ | ⟨-, h⟩
      · omega
      · exact h
    have see : ∀ (c' : mbCt) (a b x : Int), nxS a b ct c' → 0 ≤ x → x ≤ n → Mt YX12_see 0 [.inr (.inr 92), .inl x] sh sh c' (pI fun r c'' => r = (if x < n then f x % 256 else -1) ∧ c'' = c') := fun c' a b x N' h0 h1 => tw_seeN 0 sh ct S L0 h8 n0 n1 hf N' h0 h1
    refine g_aload_n (q := 76) dX12_next_75 rfl rfl ?_
    refine g_aload_n (q := 77) dX12_next_76 rfl rfl ?_
    refine g_getI (q := 80) (kI := 6) fX12_106 (by first | assumption | exact S.at _ rfl) dX12_next_77 rfl rfl ?_
    rw [N.1]
    refine g_callV (q := 83) lX12_112 mX12_see nX12_see rfl (see _ _ _ _ N (by omega) (by omega)) (by first | assumption | exact S.at _ rfl) rfl rfl shLe.rf (rmOk.mk (by omega) (by first | exact shLe.rf | assumption)) (Nat.le_of_ble_eq_true rfl) dX12_next_80 rfl rfl (kI fun r_ c_ hp => ?_)
    obtain ⟨hr, hq⟩ := hp
    replace hr := hr.symm
    replace hq := hq.symm
    subst hr hq
    rw [if_pos hsn]
    refine g_callS (q := 86) lX12_119 mX12_isSmall sX12_isSmall rfl (tw_isSmall 0 sh _ (by omega) (by omega)) shLe.rf (rmOk.mk (by omega) (by first | exact shLe.rf | assumption)) (Nat.le_of_ble_eq_true rfl) dX12_next_83 rfl rfl (kI fun r_ c_ hp => ?_)
    obtain ⟨hr, hq⟩ := hp
    replace hr := hr.symm
    replace hq := hq.symm
    subst hr hq
    refine g_if_eq (q := 89) (tg := 127) dX12_next_86 (by decide) rfl (fun c_86 => ?_) (fun c_86 => ?_)
    · have hnl : ¬ isLt (f s) := fun z => wb0.mp c_86 (b1.mpr z)
      refine g_aload_n (q := 128) dX12_next_127 rfl rfl ?_
      refine g_aload_n (q := 129) dX12_next_128 rfl rfl ?_
      refine g_getI (q := 132) (kI := 6) fX12_106 (by first | assumption | exact S.at _ rfl) dX12_next_129 rfl rfl ?_
      rw [N.1]
      refine g_callV (q := 135) lX12_112 mX12_see nX12_see rfl (see _ _ _ _ N (by omega) (by omega)) (by first | assumption | exact S.at _ rfl) rfl rfl shLe.rf (rmOk.mk (by omega) (by first | exact shLe.rf | assumption)) (Nat.le_of_ble_eq_true rfl) dX12_next_132 rfl rfl (kI fun r_ c_ hp => ?_)
      obtain ⟨hr, hq⟩ := hp
      replace hr := hr.symm
      replace hq := hq.symm
      subst hr hq
      rw [if_pos hsn]
      refine g_callS (q := 138) lX12_126 mX12_isDigit sX12_isDigit rfl (tw_isDigit 0 sh _ (by omega) (by omega)) shLe.rf (rmOk.mk (by omega) (by first | exact shLe.rf | assumption)) (Nat.le_of_ble_eq_true rfl) dX12_next_135 rfl rfl (kI fun r_ c_ hp => ?_)
      obtain ⟨hr, hq⟩ := hp
      replace hr := hr.symm
      replace hq := hq.symm
      subst hr hq
      refine g_if_eq (q := 141) (tg := 236) dX12_next_138 (by decide) rfl (fun c_138 => ?_) (fun c_138 => ?_)
      · have hnd : ¬ isDg (f s) := fun z => wb0.mp c_138 (b2.mpr z)
        have hc3 : e = s + 1 ∧ ((sgn (f s) ∧ k = f s) ∨ (¬ sgn (f s) ∧ k = 202)) := by
          rcases hc2 with h | h | h
          · exact absurd h.1 hnl
          · exact absurd h.1 hnd
          · exact h.2.2
        have hkk : sgK (f s % 256) 12 = kR k ∧ k < 1000 := by
          rcases hc3.2 with ⟨⟨j, hj, hj2⟩, h2⟩ | ⟨h1, h2⟩
          · have hsb := strB_in (i := 2) (j := j) (by decide) hj
            rw [b5 (by omega), h2, ← hj2]
            exact ⟨sgK_t ⟨j, hj⟩, by omega⟩
          · rw [h2]
            refine ⟨sgK_no 12 (fun j hj z => ?_), by omega⟩
            have hsb := strB_in (i := 2) (j := j) (by decide) hj
            refine h1 ⟨j, hj, ?_⟩
            by_cases h0 : 0 ≤ f s
            · rw [← z, b5 h0]
            · have := b6 (by omega)
              omega
        refine g_aload_n (q := 237) dX12_next_236 rfl rfl ?_
        refine g_dup (q := 238) dX12_next_237 rfl rfl ?_
        refine g_getI (q := 241) (kI := 7) fX12_109 (by first | assumption | exact S.at _ rfl) dX12_next_238 rfl rfl ?_
        rw [N.2.1]
        refine g_iconst (q := 242) dX12_next_241 rfl ?_
        refine g_iadd (q := 243) dX12_next_242 rfl ?_
        refine g_putI (q := 246) (kI := 7) fX12_109 (by first | assumption | exact S.at _ rfl) dX12_next_243 rfl rfl ?_
        refine g_aload_n (q := 247) dX12_next_246 rfl rfl ?_
        refine g_bipush (q := 249) dX12_next_247 (by decide +kernel) rfl ?_
        refine g_putI (q := 252) (kI := 9) fX12_116 (by first | assumption | exact S.at _ rfl) dX12_next_249 rfl rfl ?_
        refine g_iconst (q := 253) dX12_next_252 rfl ?_
        refine s_istore_n_2_1 (q := 254) dX12_next_253 rfl rfl rfl ?_
        have N2 := (N.be (s + 1)).kd 25
        have k2 : wr (wr c 92 7 (s + 1)) 92 9 25 92 9 = 25 := wr_eq
        generalize wr (wr c 92 7 (s + 1)) 92 9 25 = c2 at N2 k2
        refine g_for (fun i => [some (.inr (.inr 92)), some (.inl i)]) (fun i c' => 0 ≤ i ∧ nxS s (s + 1) ct c' ∧ c' 92 9 = sgK (f s % 256) i.toNat) 12 ?_ ?_ (i := 0) (by omega) ⟨Int.le_refl _, N2, k2⟩ (by simp [lsSub])
        · rintro i c' hi ⟨i0, N3, k3⟩ kk
          have L := N3.L L0
          have hsb := strB_in (i := 2) (j := i.toNat) (by decide) (by rw [r_sn]; omega)
          refine g_iload_n (q := 255) dX12_next_254 rfl rfl ?_
          refine g_ldcS (q := 257) (i := 2) mbX.sgns dX12_next_255 rfl ?_
          refine g_callT (as := []) (q := 260) (by decide) lX12_96 mJ0_length_8abf5 nJ0_length_8abf5 rfl rfl (j_length 0 sh c' (i := 2) (by decide)) shLe.rf (rmOk.mk (by omega) shLe.rf) (Nat.le_of_ble_eq_true rfl) dX12_next_257 rfl rfl (kI fun r c3 hp => ?_)
          obtain ⟨rfl, rfl⟩ := hp
          rw [r_sn]
          refine g_icmp_ge (q := 263) (tg := 294) dX12_next_260 (by decide) rfl (fun c_260 => ?_) (fun c_260 => ?_)
          · exact absurd c_260 (by rw [w32_id (x := i) (by omega) (by omega), w32_id (x := ((12 : Nat) : Int)) (by omega) (by omega)]; omega)
          · refine g_aload_n (q := 264) dX12_next_263 rfl rfl ?_
            refine g_aload_n (q := 265) dX12_next_264 rfl rfl ?_
            refine g_getI (q := 268) (kI := 6) fX12_106 (by first | assumption | exact S.at _ rfl) dX12_next_265 rfl rfl ?_
            rw [N3.1]
            refine g_callV (q := 271) lX12_112 mX12_see nX12_see rfl (see _ _ _ _ N3 (by omega) (by omega)) (by first | assumption | exact S.at _ rfl) rfl rfl shLe.rf (rmOk.mk (by omega) (by first | exact shLe.rf | assumption)) (Nat.le_of_ble_eq_true rfl) dX12_next_268 rfl rfl (kI fun r_ c_ hp => ?_)
            obtain ⟨hr, hq⟩ := hp
            replace hr := hr.symm
            replace hq := hq.symm
            subst hr hq
            rw [if_pos hsn]
            refine g_ldcS (q := 273) (i := 2) mbX.sgns dX12_next_271 rfl ?_
            refine g_iload_n (q := 274) dX12_next_273 rfl rfl ?_
            refine g_callT (as := [.inl i]) (q := 277) (by decide) lX12_102 mJ0_charAt_5068e nJ0_charAt_5068e rfl rfl (j_charAt 0 sh _ (i := 2) (by decide) i0 (by rw [r_sn]; omega)) shLe.rf (rmOk.mk (by omega) shLe.rf) (Nat.le_of_ble_eq_true rfl) dX12_next_274 rfl rfl (kI fun r c4 hp => ?_)
            obtain ⟨rfl, rfl⟩ := hp
            have hK : sgK (f s % 256) (i + 1).toNat = (if f s % 256 = strB 2 i.toNat then 30 + (i.toNat : Int) else sgK (f s % 256) i.toNat) := by
              rw [show (i + 1).toNat = i.toNat + 1 by omega]
              rfl
            refine g_icmp_ne (q := 280) (tg := 288) dX12_next_277 (by decide) rfl (fun c_277 => ?_) (fun c_277 => ?_)
            · rw [w32_id (x := f s % 256) (by omega) (by omega), w32_id (x := strB 2 i.toNat) (by omega) (by omega)] at c_277
              refine s_iinc_2_1 (q := 291) dX12_next_288 rfl rfl rfl ?_
              refine g_goto (q := 254) dX12_next_291 (by decide) ?_
              refine kk _ _ (by simp [lsSub]) ⟨by omega, N3, ?_⟩
              rw [hK, if_neg c_277]
              exact k3
            · rw [w32_id (x := f s % 256) (by omega) (by omega), w32_id (x := strB 2 i.toNat) (by omega) (by omega)] at c_277
              refine g_aload_n (q := 281) dX12_next_280 rfl rfl ?_
              refine g_bipush (q := 283) dX12_next_281 (by decide +kernel) rfl ?_
              refine g_iload_n (q := 284) dX12_next_283 rfl rfl ?_
              refine g_iadd (q := 285) dX12_next_284 rfl ?_
              refine g_putI (q := 288) (kI := 9) fX12_116 (by first | assumption | exact S.at _ rfl) dX12_next_285 rfl rfl ?_
              refine s_iinc_2_1 (q := 291) dX12_next_288 rfl rfl rfl ?_
              refine g_goto (q := 254) dX12_next_291 (by decide) ?_
              refine kk _ _ (by simp [lsSub]) ⟨by omega, N3.kd _, ?_⟩
              rw [hK, if_pos (by omega), wr_eq]
              omega
        · rintro c' ⟨i0, N3, k3⟩
          have L := N3.L L0
          refine g_iload_n (q := 255) dX12_next_254 rfl rfl ?_
          refine g_ldcS (q := 257) (i := 2) mbX.sgns dX12_next_255 rfl ?_
          refine g_callT (as := []) (q := 260) (by decide) lX12_96 mJ0_length_8abf5 nJ0_length_8abf5 rfl rfl (j_length 0 sh c' (i := 2) (by decide)) shLe.rf (rmOk.mk (by omega) shLe.rf) (Nat.le_of_ble_eq_true rfl) dX12_next_257 rfl rfl (kI fun r c3 hp => ?_)
          obtain ⟨rfl, rfl⟩ := hp
          rw [r_sn]
          refine g_icmp_ge (q := 263) (tg := 294) dX12_next_260 (by decide) rfl (fun c_260 => ?_) (fun c_260 => ?_)
          · refine g_return dX12_next_294 rfl ?_
            rw [← hP]
            refine ⟨rfl, ⟨?_, fun z => by have := hkk.2; omega⟩, ?_⟩
            · rw [← hkk.1]; exact k3
            · rw [hc3.1]; exact N3
          · exact absurd c_260 (Int.lt_irrefl _)
      · have hdg : isDg (f s) := b2.mp (wbn.mp c_138)
        have hc3 : runE isDg f n s e ∧ k = digK f s e := by
          rcases hc2 with h | h | h
          · exact absurd h.1 hnl
          · exact h.2
          · exact absurd hdg h.2.1
        have he1 := hc3.1.1
        have hvb : ∀ m : Nat, (m : Int) ≤ e - s → m ≤ 3 → 0 ≤ numV f s m ∧ numV f s m < 1000 := by
          intro m hm h3
          have h4 := digV_in hc3.1 m hm h3
          refine ⟨h4.1, ?_⟩
          have h5 := h4.2
          split at h5
          · omega
          · split at h5
            · omega
            · split at h5 <;> omega
        refine g_aload_n (q := 142) dX12_next_141 rfl rfl ?_
        refine g_iconst (q := 143) dX12_next_142 rfl ?_
        refine g_putI (q := 146) (kI := 10) fX12_129 (by first | assumption | exact S.at _ rfl) dX12_next_143 rfl rfl ?_
        have N2 := N.nm 0
        have k2 : wr c 92 10 0 92 10 = numV f s 0 := wr_eq
        generalize wr c 92 10 0 = c2 at N2 k2
        refine g_for (fun i => [some (.inr (.inr 92)), none]) (fun i c' => s ≤ i ∧ nxS s i ct c' ∧ c' 92 10 = numV f s (if i - s < 3 then (i - s).toNat else 3)) e ?_ ?_ (i := s) (by omega) ⟨Int.le_refl _, N2, by rw [if_pos (by omega), show (s - s).toNat = 0 by omega]; exact k2⟩ (by simp [lsSub])
        · rintro i c' hi ⟨i0, N3, k3⟩ kk
          have L := N3.L L0
          have hdi := hc3.1.2.1 i i0 hi
          have hfi := hf i (by omega) (by omega)
          obtain ⟨q1, q2, q3, q4, q5, q6⟩ := by_lt hfi.2.1 hfi.2.2
          have hfv : f i % 256 = f i := q5 (by omega)
          refine g_aload_n (q := 147) dX12_next_146 rfl rfl ?_
          refine g_aload_n (q := 148) dX12_next_147 rfl rfl ?_
          refine g_getI (q := 151) (kI := 7) fX12_109 (by first | assumption | exact S.at _ rfl) dX12_next_148 rfl rfl ?_
          rw [N3.2.1]
          refine g_callV (q := 154) lX12_112 mX12_see nX12_see rfl (see _ _ _ _ N3 (by omega) (by omega)) (by first | assumption | exact S.at _ rfl) rfl rfl shLe.rf (rmOk.mk (by omega) (by first | exact shLe.rf | assumption)) (Nat.le_of_ble_eq_true rfl) dX12_next_151 rfl rfl (kI fun r_ c_ hp => ?_)
          obtain ⟨hr, hq⟩ := hp
          replace hr := hr.symm
          replace hq := hq.symm
          subst hr hq
          rw [if_pos (by omega)]
          refine g_callS (q := 157) lX12_126 mX12_isDigit sX12_isDigit rfl (tw_isDigit 0 sh _ (by omega) (by omega)) shLe.rf (rmOk.mk (by omega) (by first | exact shLe.rf | assumption)) (Nat.le_of_ble_eq_true rfl) dX12_next_154 rfl rfl (kI fun r_ c_ hp => ?_)
          obtain ⟨hr, hq⟩ := hp
          replace hr := hr.symm
          replace hq := hq.symm
          subst hr hq
          have more : ∀ c3, nxS s i ct c3 → c3 92 10 = numV f s (if i + 1 - s < 3 then (i + 1 - s).toNat else 3) → G (mkK YX12_next (d + 5) sh sh Po) 196 [some (.inr (.inr 92)), none] [] sh c3 := by
            intro c3 N4 k4
            have L := N4.L L0
            refine g_aload_n (q := 197) dX12_next_196 rfl rfl ?_
            refine g_dup (q := 198) dX12_next_197 rfl rfl ?_
            refine g_getI (q := 201) (kI := 7) fX12_109 (by first | assumption | exact S.at _ rfl) dX12_next_198 rfl rfl ?_
            rw [N4.2.1]
            refine g_iconst (q := 202) dX12_next_201 rfl ?_
            refine g_iadd (q := 203) dX12_next_202 rfl ?_
            refine g_putI (q := 206) (kI := 7) fX12_109 (by first | assumption | exact S.at _ rfl) dX12_next_203 rfl rfl ?_
            refine g_goto (q := 146) dX12_next_206 (by decide) ?_
            refine kk _ _ (by simp [lsSub]) ⟨by omega, N4.be _, ?_⟩
            rw [wr_nk (by decide)]
            exact k4
          refine g_if_eq (q := 160) (tg := 209) dX12_next_157 (by decide) rfl (fun c_157 => ?_) (fun c_157 => ?_)
          · exact absurd (q2.mpr hdi) (wb0.mp c_157)
          · refine g_aload_n (q := 161) dX12_next_160 rfl rfl ?_
            refine g_getI (q := 164) (kI := 7) fX12_109 (by first | assumption | exact S.at _ rfl) dX12_next_161 rfl rfl ?_
            rw [N3.2.1]
            refine g_aload_n (q := 165) dX12_next_164 rfl rfl ?_
            refine g_getI (q := 168) (kI := 6) fX12_106 (by first | assumption | exact S.at _ rfl) dX12_next_165 rfl rfl ?_
            rw [N3.1]
            refine g_isub (q := 169) dX12_next_168 rfl ?_
            refine g_iconst (q := 170) dX12_next_169 rfl ?_
            refine g_icmp_ge (q := 173) (tg := 196) dX12_next_170 (by decide) rfl (fun c_170 => ?_) (fun c_170 => ?_)
            · rw [w32_id (x := i - s) (by omega) (by omega), show w32 3 = 3 from rfl] at c_170
              refine more _ N3 ?_
              rw [k3, if_neg (by omega), if_neg (by omega)]
            · rw [w32_id (x := i - s) (by omega) (by omega), show w32 3 = 3 from rfl] at c_170
              refine g_aload_n (q := 174) dX12_next_173 rfl rfl ?_
              refine g_bipush (q := 176) dX12_next_174 (by decide +kernel) rfl ?_
              refine g_aload_n (q := 177) dX12_next_176 rfl rfl ?_
              refine g_getI (q := 180) (kI := 10) fX12_129 (by first | assumption | exact S.at _ rfl) dX12_next_177 rfl rfl ?_
              rw [k3, if_pos c_170]
              refine g_imul (q := 181) dX12_next_180 rfl ?_
              refine g_aload_n (q := 182) dX12_next_181 rfl rfl ?_
              refine g_aload_n (q := 183) dX12_next_182 rfl rfl ?_
              refine g_getI (q := 186) (kI := 7) fX12_109 (by first | assumption | exact S.at _ rfl) dX12_next_183 rfl rfl ?_
              rw [N3.2.1]
              refine g_callV (q := 189) lX12_112 mX12_see nX12_see rfl (see _ _ _ _ N3 (by omega) (by omega)) (by first | assumption | exact S.at _ rfl) rfl rfl shLe.rf (rmOk.mk (by omega) (by first | exact shLe.rf | assumption)) (Nat.le_of_ble_eq_true rfl) dX12_next_186 rfl rfl (kI fun r_ c_ hp => ?_)
              obtain ⟨hr, hq⟩ := hp
              replace hr := hr.symm
              replace hq := hq.symm
              subst hr hq
              rw [if_pos (by omega), hfv]
              refine g_iadd (q := 190) dX12_next_189 rfl ?_
              refine g_bipush (q := 192) dX12_next_190 (by decide +kernel) rfl ?_
              refine g_isub (q := 193) dX12_next_192 rfl ?_
              refine g_putI (q := 196) (kI := 10) fX12_129 (by first | assumption | exact S.at _ rfl) dX12_next_193 rfl rfl ?_
              refine more _ (N3.nm _) ?_
              rw [wr_eq]
              have hstep : numV f s ((i - s).toNat + 1) = numV f s (i - s).toNat * 10 + f i - 48 := by
                show _ * 10 + f (s + ((i - s).toNat : Nat)) - 48 = _
                rw [show s + (((i - s).toNat : Nat) : Int) = i by omega]
              by_cases h2 : i + 1 - s < 3
              · rw [if_pos h2, show (i + 1 - s).toNat = (i - s).toNat + 1 by omega, hstep]
                omega
              · rw [if_neg h2, show (3 : Nat) = (i - s).toNat + 1 by omega, hstep]
                omega
        · rintro c' ⟨i0, N3, k3⟩
          have L := N3.L L0
          have hend : (if e < n then f e % 256 else -1) = (if e < n then f e % 256 else -1) := rfl
          have hnot : ¬ isDg (if e < n then f e % 256 else -1) ∧ -1 ≤ (if e < n then f e % 256 else -1) ∧ (if e < n then f e % 256 else -1) < 256 := by
            by_cases h : e < n
            · rw [if_pos h]
              have hfe := hf e (by omega) h
              obtain ⟨q1, q2, q3, q4, q5, q6⟩ := by_lt hfe.2.1 hfe.2.2
              exact ⟨fun z => hc3.1.2.2 h (q2.mp z), by omega, by omega⟩
            · rw [if_neg h]
              exact ⟨by omega, by omega, by omega⟩
          refine g_aload_n (q := 147) dX12_next_146 rfl rfl ?_
          refine g_aload_n (q := 148) dX12_next_147 rfl rfl ?_
          refine g_getI (q := 151) (kI := 7) fX12_109 (by first | assumption | exact S.at _ rfl) dX12_next_148 rfl rfl ?_
          rw [N3.2.1]
          refine g_callV (q := 154) lX12_112 mX12_see nX12_see rfl (see _ _ _ _ N3 (by omega) (by omega)) (by first | assumption | exact S.at _ rfl) rfl rfl shLe.rf (rmOk.mk (by omega) (by first | exact shLe.rf | assumption)) (Nat.le_of_ble_eq_true rfl) dX12_next_151 rfl rfl (kI fun r_ c_ hp => ?_)
          obtain ⟨hr, hq⟩ := hp
          replace hr := hr.symm
          replace hq := hq.symm
          subst hr hq
          refine g_callS (q := 157) lX12_126 mX12_isDigit sX12_isDigit rfl (tw_isDigit 0 sh _ hnot.2.1 hnot.2.2) shLe.rf (rmOk.mk (by omega) (by first | exact shLe.rf | assumption)) (Nat.le_of_ble_eq_true rfl) dX12_next_154 rfl rfl (kI fun r_ c_ hp => ?_)
          obtain ⟨hr, hq⟩ := hp
          replace hr := hr.symm
          replace hq := hq.symm
          subst hr hq
          refine g_if_eq (q := 160) (tg := 209) dX12_next_157 (by decide) rfl (fun c_157 => ?_) (fun c_157 => ?_)
          · refine g_aload_n (q := 210) dX12_next_209 rfl rfl ?_
            refine g_aload_n (q := 211) dX12_next_210 rfl rfl ?_
            refine g_getI (q := 214) (kI := 7) fX12_109 (by first | assumption | exact S.at _ rfl) dX12_next_211 rfl rfl ?_
            rw [N3.2.1]
            refine g_aload_n (q := 215) dX12_next_214 rfl rfl ?_
            refine g_getI (q := 218) (kI := 6) fX12_106 (by first | assumption | exact S.at _ rfl) dX12_next_215 rfl rfl ?_
            rw [N3.1]
            refine g_isub (q := 219) dX12_next_218 rfl ?_
            refine g_iconst (q := 220) dX12_next_219 rfl ?_
            refine g_icmp_le (q := 223) (tg := 228) dX12_next_220 (by decide) rfl (fun c_220 => ?_) (fun c_220 => ?_)
            · rw [w32_id (x := e - s) (by omega) (by omega), show w32 3 = 3 from rfl] at c_220
              have hkv : k = 1000 + numV f s (e - s).toNat := by rw [hc3.2]; unfold digK; rw [if_neg (by omega)]
              have hvb1 := hvb (e - s).toNat (by omega) (by omega)
              refine g_bipush (q := 230) dX12_next_228 (by decide +kernel) rfl ?_
              refine g_putI (q := 233) (kI := 9) fX12_116 (by first | assumption | exact S.at _ rfl) dX12_next_230 rfl rfl ?_
              refine g_goto (q := 294) dX12_next_233 (by decide) ?_
              refine g_return dX12_next_294 rfl ?_
              rw [← hP]
              refine ⟨rfl, ⟨?_, fun _ => ?_⟩, N3.kd _⟩
              · rw [wr_eq]
                unfold kR
                rw [if_pos (by omega)]
              · rw [wr_nk (by decide), k3, hkv]
                by_cases h2 : e - s < 3
                · rw [if_pos h2]; omega
                · rw [if_neg h2, show (e - s).toNat = 3 by omega]; omega
            · rw [w32_id (x := e - s) (by omega) (by omega), show w32 3 = 3 from rfl] at c_220
              have hkv : k = 202 := by rw [hc3.2]; unfold digK; rw [if_pos (by omega)]
              refine g_bipush (q := 225) dX12_next_223 (by decide +kernel) rfl ?_
              refine g_goto (q := 230) dX12_next_225 (by decide) ?_
              refine g_putI (q := 233) (kI := 9) fX12_116 (by first | assumption | exact S.at _ rfl) dX12_next_230 rfl rfl ?_
              refine g_goto (q := 294) dX12_next_233 (by decide) ?_
              refine g_return dX12_next_294 rfl ?_
              rw [← hP]
              refine ⟨rfl, ⟨?_, fun _ => by omega⟩, N3.kd _⟩
              rw [wr_eq, hkv]
              rfl
          · exact absurd (wbn.mp c_157) hnot.1
    · have hlt : isLt (f s) := b1.mp (wbn.mp c_86)
      have hc3 : runE isLt f n s e ∧ kindW f s e k := by
        rcases hc2 with h | h | h
        · exact h.2
        · have := h.1; omega
        · exact absurd hlt h.1
      have he1 := hc3.1.1
      refine g_for (fun i => [some (.inr (.inr 92)), none]) (fun i c' => s ≤ i ∧ nxS s i ct c') e ?_ ?_ (i := s) (by omega) ⟨Int.le_refl _, N⟩ (by simp [lsSub])
      · rintro i c' hi ⟨i0, N3⟩ kk
        have L := N3.L L0
        have hdi := hc3.1.2.1 i i0 hi
        have hfi := hf i (by omega) (by omega)
        obtain ⟨q1, q2, q3, q4, q5, q6⟩ := by_lt hfi.2.1 hfi.2.2
        refine g_aload_n (q := 90) dX12_next_89 rfl rfl ?_
        refine g_aload_n (q := 91) dX12_next_90 rfl rfl ?_
        refine g_getI (q := 94) (kI := 7) fX12_109 (by first | assumption | exact S.at _ rfl) dX12_next_91 rfl rfl ?_
        rw [N3.2.1]
        refine g_callV (q := 97) lX12_112 mX12_see nX12_see rfl (see _ _ _ _ N3 (by omega) (by omega)) (by first | assumption | exact S.at _ rfl) rfl rfl shLe.rf (rmOk.mk (by omega) (by first | exact shLe.rf | assumption)) (Nat.le_of_ble_eq_true rfl) dX12_next_94 rfl rfl (kI fun r_ c_ hp => ?_)
        obtain ⟨hr, hq⟩ := hp
        replace hr := hr.symm
        replace hq := hq.symm
        subst hr hq
        rw [if_pos (by omega)]
        refine g_callS (q := 100) lX12_119 mX12_isSmall sX12_isSmall rfl (tw_isSmall 0 sh _ (by omega) (by omega)) shLe.rf (rmOk.mk (by omega) (by first | exact shLe.rf | assumption)) (Nat.le_of_ble_eq_true rfl) dX12_next_97 rfl rfl (kI fun r_ c_ hp => ?_)
        obtain ⟨hr, hq⟩ := hp
        replace hr := hr.symm
        replace hq := hq.symm
        subst hr hq
        refine g_if_eq (q := 103) (tg := 116) dX12_next_100 (by decide) rfl (fun c_100 => ?_) (fun c_100 => ?_)
        · exact absurd (q1.mpr hdi) (wb0.mp c_100)
        · refine g_aload_n (q := 104) dX12_next_103 rfl rfl ?_
          refine g_dup (q := 105) dX12_next_104 rfl rfl ?_
          refine g_getI (q := 108) (kI := 7) fX12_109 (by first | assumption | exact S.at _ rfl) dX12_next_105 rfl rfl ?_
          rw [N3.2.1]
          refine g_iconst (q := 109) dX12_next_108 rfl ?_
          refine g_iadd (q := 110) dX12_next_109 rfl ?_
          refine g_putI (q := 113) (kI := 7) fX12_109 (by first | assumption | exact S.at _ rfl) dX12_next_110 rfl rfl ?_
          refine g_goto (q := 89) dX12_next_113 (by decide) ?_
          exact kk _ _ (by simp [lsSub]) ⟨by omega, N3.be _⟩
      · rintro c' ⟨i0, N3⟩
        have L := N3.L L0
        have hnot : ¬ isLt (if e < n then f e % 256 else -1) ∧ -1 ≤ (if e < n then f e % 256 else -1) ∧ (if e < n then f e % 256 else -1) < 256 := by
          by_cases h : e < n
          · rw [if_pos h]
            have hfe := hf e (by omega) h
            obtain ⟨q1, q2, q3, q4, q5, q6⟩ := by_lt hfe.2.1 hfe.2.2
            exact ⟨fun z => hc3.1.2.2 h (q1.mp z), by omega, by omega⟩
          · rw [if_neg h]
            exact ⟨by omega, by omega, by omega⟩
        have e95 : c' 95 = ct 95 := N3.2.2.2 95 (by decide)
        have hcg : ∀ t, isR (c' 95) s e t ↔ isR f s e t := by
          intro t
          unfold isR
          have hj : ∀ j : Nat, s + (j : Int) < e → c' 95 (s + j) = f (s + j) := by
            intro j hj
            have hl := hc3.1.2.1 (s + j) (by omega) hj
            have hfi := hf (s + j) (by omega) (by omega)
            rw [e95, hfi.1]
            omega
          constructor
          · rintro ⟨a, b⟩
            exact ⟨a, fun j h => by rw [← hj j (by omega)]; exact b j h⟩
          · rintro ⟨a, b⟩
            exact ⟨a, fun j h => by rw [hj j (by omega)]; exact b j h⟩
        refine g_aload_n (q := 90) dX12_next_89 rfl rfl ?_
        refine g_aload_n (q := 91) dX12_next_90 rfl rfl ?_
        refine g_getI (q := 94) (kI := 7) fX12_109 (by first | assumption | exact S.at _ rfl) dX12_next_91 rfl rfl ?_
        rw [N3.2.1]
        refine g_callV (q := 97) lX12_112 mX12_see nX12_see rfl (see _ _ _ _ N3 (by omega) (by omega)) (by first | assumption | exact S.at _ rfl) rfl rfl shLe.rf (rmOk.mk (by omega) (by first | exact shLe.rf | assumption)) (Nat.le_of_ble_eq_true rfl) dX12_next_94 rfl rfl (kI fun r_ c_ hp => ?_)
        obtain ⟨hr, hq⟩ := hp
        replace hr := hr.symm
        replace hq := hq.symm
        subst hr hq
        refine g_callS (q := 100) lX12_119 mX12_isSmall sX12_isSmall rfl (tw_isSmall 0 sh _ hnot.2.1 hnot.2.2) shLe.rf (rmOk.mk (by omega) (by first | exact shLe.rf | assumption)) (Nat.le_of_ble_eq_true rfl) dX12_next_97 rfl rfl (kI fun r_ c_ hp => ?_)
        obtain ⟨hr, hq⟩ := hp
        replace hr := hr.symm
        replace hq := hq.symm
        subst hr hq
        refine g_if_eq (q := 103) (tg := 116) dX12_next_100 (by decide) rfl (fun c_100 => ?_) (fun c_100 => ?_)
        · refine g_aload_n (q := 117) dX12_next_116 rfl rfl ?_
          refine g_aload_n (q := 118) dX12_next_117 rfl rfl ?_
          refine g_callV (q := 121) lX12_123 mX12_keyAt nX12_keyAt rfl (tw_keyAt 0 sh _ S L N3.1 N3.2.1 (by omega) (by omega) (by omega) (fun j a b => by rw [e95, (hf j (by omega) (by omega)).1]; omega)) (by first | assumption | exact S.at _ rfl) rfl rfl shLe.rf (rmOk.mk (by omega) (by first | exact shLe.rf | assumption)) (Nat.le_of_ble_eq_true rfl) dX12_next_118 rfl rfl (kI fun r c4 hp => ?_)
          obtain ⟨hp, rfl⟩ := hp
          refine g_putI (q := 124) (kI := 9) fX12_116 (by first | assumption | exact S.at _ rfl) dX12_next_121 rfl rfl ?_
          refine g_goto (q := 294) dX12_next_124 (by decide) ?_
          refine g_return dX12_next_294 rfl ?_
          rw [← hP]
          refine ⟨rfl, ⟨?_, fun z => by have := hc3.2.in; omega⟩, N3.kd _⟩
          rw [wr_eq]
          rcases hp with ⟨t, ht, hR, hr⟩ | ⟨hR, hr⟩
          · obtain ⟨w, hw⟩ := rW_on ⟨t, ht⟩
            dsimp only at hw
            rw [hcg, ← hw] at hR
            have hW := (isR_W w.isLt).mp hR
            rcases hc3.2 with ⟨v, v1, v2, v3⟩ | ⟨v1, v2⟩
            · have := isW.uni w.isLt v1 hW v2
              rw [hr, v3, ← hw, this]
              exact (kR_w ⟨v, v1⟩).symm
            · exact absurd hW (v1 _ w.isLt)
          · rcases hc3.2 with ⟨v, v1, v2, v3⟩ | ⟨v1, v2⟩
            · exact absurd ((hcg _).mpr ((isR_W v1).mpr v2)) (hR (rW v) (rW_t ⟨v, v1⟩).1)
            · rw [hr, v2]
              rfl
        · exact absurd (wbn.mp c_100) hnot.1
  refine Mt.of rfl (Nat.le_of_ble_eq_true rfl) ?_
  show G _ 0 [some (.inr (.inr 92)), none] [] sh ct
  refine g_aload_n (q := 1) dX12_next_0 rfl rfl ?_
  refine g_aload_n (q := 2) dX12_next_1 rfl rfl ?_
  refine g_getI (q := 5) (kI := 7) fX12_109 (by first | assumption | exact S.at _ rfl) dX12_next_2 rfl rfl ?_
  rw [h7]
  refine g_putI (q := 8) (kI := 6) fX12_106 (by first | assumption | exact S.at _ rfl) dX12_next_5 rfl rfl ?_
  have N1 := N0.at p
  generalize wr ct 92 6 p = c1 at N1
  have see : ∀ (c' : mbCt) (a b x : Int), nxS a b ct c' → 0 ≤ x → x ≤ n → Mt YX12_see 0 [.inr (.inr 92), .inl x] sh sh c' (pI fun r c'' => r = (if x < n then f x % 256 else -1) ∧ c'' = c') := fun c' a b x N' h0 h1 => tw_seeN 0 sh ct S L0 h8 n0 n1 hf N' h0 h1
  refine g_for (fun i => [some (.inr (.inr 92)), none]) (fun i c' => p ≤ i ∧ nxS i p ct c') s ?_ ?_ (i := p) (by omega) ⟨Int.le_refl _, N1⟩ (by simp [lsSub])
  · rintro i c' hi ⟨i0, N3⟩ kk
    have L := N3.L L0
    have hdi := hws.2.1 i i0 hi
    have hfi := hf i (by omega) (by omega)
    obtain ⟨q1, q2, q3, q4, q5, q6⟩ := by_lt hfi.2.1 hfi.2.2
    have hfv : f i % 256 = f i := q5 (by rcases hdi with h | h <;> omega)
    have more : G (mkK YX12_next (d + 5) sh sh Po) 34 [some (.inr (.inr 92)), none] [] sh c' := by
      refine g_aload_n (q := 35) dX12_next_34 rfl rfl ?_
      refine g_dup (q := 36) dX12_next_35 rfl rfl ?_
      refine g_getI (q := 39) (kI := 6) fX12_106 (by first | assumption | exact S.at _ rfl) dX12_next_36 rfl rfl ?_
      rw [N3.1]
      refine g_iconst (q := 40) dX12_next_39 rfl ?_
      refine g_iadd (q := 41) dX12_next_40 rfl ?_
      refine g_putI (q := 44) (kI := 6) fX12_106 (by first | assumption | exact S.at _ rfl) dX12_next_41 rfl rfl ?_
      refine g_goto (q := 8) dX12_next_44 (by decide) ?_
      exact kk _ _ (by simp [lsSub]) ⟨by omega, N3.at _⟩
    refine g_aload_n (q := 9) dX12_next_8 rfl rfl ?_
    refine g_aload_n (q := 10) dX12_next_9 rfl rfl ?_
    refine g_getI (q := 13) (kI := 6) fX12_106 (by first | assumption | exact S.at _ rfl) dX12_next_10 rfl rfl ?_
    rw [N3.1]
    refine g_callV (q := 16) lX12_112 mX12_see nX12_see rfl (see _ _ _ _ N3 (by omega) (by omega)) (by first | assumption | exact S.at _ rfl) rfl rfl shLe.rf (rmOk.mk (by omega) (by first | exact shLe.rf | assumption)) (Nat.le_of_ble_eq_true rfl) dX12_next_13 rfl rfl (kI fun r_ c_ hp => ?_)
    obtain ⟨hr, hq⟩ := hp
    replace hr := hr.symm
    replace hq := hq.symm
    subst hr hq
    rw [if_pos (by omega), hfv]
    refine g_bipush (q := 18) dX12_next_16 (by decide +kernel) rfl ?_
    refine g_icmp_eq (q := 21) (tg := 34) dX12_next_18 (by decide) rfl (fun c_18 => ?_) (fun c_18 => ?_)
    · exact more
    · rw [w32_id (x := f i) (by omega) (by omega), show w32 10 = 10 from rfl] at c_18
      refine g_aload_n (q := 22) dX12_next_21 rfl rfl ?_
      refine g_aload_n (q := 23) dX12_next_22 rfl rfl ?_
      refine g_getI (q := 26) (kI := 6) fX12_106 (by first | assumption | exact S.at _ rfl) dX12_next_23 rfl rfl ?_
      rw [N3.1]
      refine g_callV (q := 29) lX12_112 mX12_see nX12_see rfl (see _ _ _ _ N3 (by omega) (by omega)) (by first | assumption | exact S.at _ rfl) rfl rfl shLe.rf (rmOk.mk (by omega) (by first | exact shLe.rf | assumption)) (Nat.le_of_ble_eq_true rfl) dX12_next_26 rfl rfl (kI fun r_ c_ hp => ?_)
      obtain ⟨hr, hq⟩ := hp
      replace hr := hr.symm
      replace hq := hq.symm
      subst hr hq
      rw [if_pos (by omega), hfv]
      refine g_bipush (q := 31) dX12_next_29 (by decide +kernel) rfl ?_
      refine g_icmp_ne (q := 34) (tg := 47) dX12_next_31 (by decide) rfl (fun c_31 => ?_) (fun c_31 => ?_)
      · rw [w32_id (x := f i) (by omega) (by omega), show w32 32 = 32 from rfl] at c_31
        rcases hdi with h | h
        · exact absurd h c_18
        · exact absurd h c_31
      · exact more
  · rintro c' ⟨i0, N3⟩
    have L := N3.L L0
    have hnot : ¬ isWs (if s < n then f s % 256 else -1) ∧ -1 ≤ (if s < n then f s % 256 else -1) ∧ (if s < n then f s % 256 else -1) < 256 := by
      by_cases h : s < n
      · rw [if_pos h]
        have hfe := hf s (by omega) h
        obtain ⟨q1, q2, q3, q4, q5, q6⟩ := by_lt hfe.2.1 hfe.2.2
        exact ⟨fun z => hws.2.2 h (q3.mp z), by omega, by omega⟩
      · rw [if_neg h]
        exact ⟨by rintro (z | z) <;> omega, by omega, by omega⟩
    have hv1 : (if s < n then f s % 256 else -1) ≠ 10 := fun z => hnot.1 (Or.inl z)
    have hv2 : (if s < n then f s % 256 else -1) ≠ 32 := fun z => hnot.1 (Or.inr z)
    have hvb := hnot.2
    refine g_aload_n (q := 9) dX12_next_8 rfl rfl ?_
    refine g_aload_n (q := 10) dX12_next_9 rfl rfl ?_
    refine g_getI (q := 13) (kI := 6) fX12_106 (by first | assumption | exact S.at _ rfl) dX12_next_10 rfl rfl ?_
    rw [N3.1]
    refine g_callV (q := 16) lX12_112 mX12_see nX12_see rfl (see _ _ _ _ N3 (by omega) (by omega)) (by first | assumption | exact S.at _ rfl) rfl rfl shLe.rf (rmOk.mk (by omega) (by first | exact shLe.rf | assumption)) (Nat.le_of_ble_eq_true rfl) dX12_next_13 rfl rfl (kI fun r_ c_ hp => ?_)
    obtain ⟨hr, hq⟩ := hp
    replace hr := hr.symm
    replace hq := hq.symm
    subst hr hq
    refine g_bipush (q := 18) dX12_next_16 (by decide +kernel) rfl ?_
    refine g_icmp_eq (q := 21) (tg := 34) dX12_next_18 (by decide) rfl (fun c_18 => ?_) (fun c_18 => ?_)
    · rw [w32_id (x := (if s < n then f s % 256 else -1)) (by omega) (by omega), show w32 10 = 10 from rfl] at c_18
      exact absurd c_18 hv1
    · refine g_aload_n (q := 22) dX12_next_21 rfl rfl ?_
      refine g_aload_n (q := 23) dX12_next_22 rfl rfl ?_
      refine g_getI (q := 26) (kI := 6) fX12_106 (by first | assumption | exact S.at _ rfl) dX12_next_23 rfl rfl ?_
      rw [N3.1]
      refine g_callV (q := 29) lX12_112 mX12_see nX12_see rfl (see _ _ _ _ N3 (by omega) (by omega)) (by first | assumption | exact S.at _ rfl) rfl rfl shLe.rf (rmOk.mk (by omega) (by first | exact shLe.rf | assumption)) (Nat.le_of_ble_eq_true rfl) dX12_next_26 rfl rfl (kI fun r_ c_ hp => ?_)
      obtain ⟨hr, hq⟩ := hp
      replace hr := hr.symm
      replace hq := hq.symm
      subst hr hq
      refine g_bipush (q := 31) dX12_next_29 (by decide +kernel) rfl ?_
      refine g_icmp_ne (q := 34) (tg := 47) dX12_next_31 (by decide) rfl (fun c_31 => ?_) (fun c_31 => ?_)
      · refine g_aload_n (q := 48) dX12_next_47 rfl rfl ?_
        refine g_aload_n (q := 49) dX12_next_48 rfl rfl ?_
        refine g_getI (q := 52) (kI := 6) fX12_106 (by first | assumption | exact S.at _ rfl) dX12_next_49 rfl rfl ?_
        rw [N3.1]
        refine g_putI (q := 55) (kI := 7) fX12_109 (by first | assumption | exact S.at _ rfl) dX12_next_52 rfl rfl ?_
        have N4 := N3.be s
        generalize wr c' 92 7 s = c4 at N4
        have L := N4.L L0
        have h84 : c4 92 8 = n := by rw [N4.2.2.1 8 (by decide) (by decide) (by decide) (by decide)]; exact h8
        refine g_aload_n (q := 56) dX12_next_55 rfl rfl ?_
        refine g_getI (q := 59) (kI := 6) fX12_106 (by first | assumption | exact S.at _ rfl) dX12_next_56 rfl rfl ?_
        rw [N4.1]
        refine g_aload_n (q := 60) dX12_next_59 rfl rfl ?_
        refine g_getI (q := 63) (kI := 8) fX12_91 (by first | assumption | exact S.at _ rfl) dX12_next_60 rfl rfl ?_
        rw [h84]
        refine g_icmp_lt (q := 66) (tg := 75) dX12_next_63 (by decide) rfl (fun c_63 => ?_) (fun c_63 => ?_)
        · rw [w32_id (x := s) (by omega) (by omega), w32_id (x := n) (by omega) (by omega)] at c_63
          exact big c_63 c4 N4
        · rw [w32_id (x := s) (by omega) (by omega), w32_id (x := n) (by omega) (by omega)] at c_63
          have hk2 : e = n ∧ k = 201 := by
            rcases hcase with ⟨-, h1, h2⟩ | ⟨h, -⟩
            · exact ⟨h1, h2⟩
            · omega
          have hes : e = s := by omega
          refine g_aload_n (q := 67) dX12_next_66 rfl rfl ?_
          refine g_bipush (q := 69) dX12_next_67 (by decide +kernel) rfl ?_
          refine g_putI (q := 72) (kI := 9) fX12_116 (by first | assumption | exact S.at _ rfl) dX12_next_69 rfl rfl ?_
          refine g_goto (q := 294) dX12_next_72 (by decide) ?_
          refine g_return dX12_next_294 rfl ?_
          rw [← hP]
          refine ⟨rfl, ⟨?_, fun z => by omega⟩, ?_⟩
          · rw [wr_eq, hk2.2]; rfl
          · rw [hes]; exact N4.kd _
      · rw [w32_id (x := (if s < n then f s % 256 else -1)) (by omega) (by omega), show w32 32 = 32 from rfl] at c_31
        exact absurd c_31 hv2
end
