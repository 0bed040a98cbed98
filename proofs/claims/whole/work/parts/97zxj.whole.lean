/-! from the law's entry -/
theorem whole_start {p : Program} {e : Env} {s : State} {m : MethodId} {below : List Frame} {meth : Method} {c : Code} (l : Launch) {b L : Nat} {xs : Nat → Int32} (hL : L ≤ 3072) (C0 : lw_At p s m meth c b L xs) : W p l e room_1 s m #[Value.ref b] below meth c s.heap [] 0 0 (lw_Z below #[Value.ref b] s) (entryFrame m ([Value.ref b] : List Value).toArray 4) := by
  obtain ⟨hx, hb, hr, hml, hown, hts, hX, hbl, hlocks, hgv⟩ := id C0
  have hs := flat_of_before _ hgv
  have fl : ∀ (k : Nat) {w : Cond}, flC[k]? = some w → w.before #[Value.ref b] s = true := fun k w h => hs w (List.mem_of_getElem? h)
  have tb : ∀ (k : Nat) {w : Cond}, tables_1[k]? = some w → w.before #[Value.ref b] s = true := fun k w h => hts w (List.mem_append_right _ (List.mem_of_getElem? h))
  have hTB : ∀ w ∈ mbTB, w.before #[Value.ref b] s = true := fun w hw => hts w (List.mem_filter.mp hw).1
  have hA : ∀ a : Nat, a < s.heap.size → ¬ (fun q : Nat => s.heap.size ≤ q) a := fun a h => Nat.not_le.mpr h
  obtain ⟨c0, i0, k0⟩ := u_known hTB cl_0.2.2.1 (hTB _ in_X0)
  obtain ⟨c1, i1, k1⟩ := u_known hTB cl_1.2.2.1 (hTB _ in_X1)
  obtain ⟨c2, i2, k2⟩ := u_known hTB cl_2.2.2.1 (hTB _ in_X2)
  obtain ⟨c3, i3, k3⟩ := u_known hTB cl_3.2.2.1 (hTB _ in_X3)
  obtain ⟨c4, i4, k4⟩ := u_known hTB cl_4.2.2.1 (hTB _ in_X4)
  obtain ⟨c5, i5, k5⟩ := u_known hTB cl_5.2.2.1 (hTB _ in_X5)
  obtain ⟨c6, i6, k6⟩ := u_known hTB cl_6.2.2.1 (hTB _ in_X6)
  obtain ⟨c7, i7, k7⟩ := u_known hTB cl_7.2.2.1 (hTB _ in_X7)
  obtain ⟨c8, i8, k8⟩ := u_known hTB cl_8.2.2.1 (hTB _ in_X8)
  obtain ⟨c9, i9, k9⟩ := u_known hTB cl_9.2.2.1 (hTB _ in_X9)
  obtain ⟨c10, i10, k10⟩ := u_known hTB cl_10.2.2.1 (hTB _ in_X10)
  obtain ⟨c11, i11, k11⟩ := u_known hTB cl_11.2.2.1 (hTB _ in_X11)
  obtain ⟨c12, i12, k12⟩ := u_known hTB cl_12.2.2.1 (hTB _ in_X12)
  obtain ⟨dC, dI, hKc⟩ : ∃ (dC : Nat → ClassId) (dI : Nat → Nat → Nat), ∀ (k : Nat) (q : vw_C), mbCl[k]? = some q → u_Kn s q.1 q.2.1 q.2.2 (dC k) (dI k) := by
    refine ⟨fun k => match k with
      | 0 => c0 | 1 => c1 | 2 => c2 | 3 => c3 | 4 => c4 | 5 => c5 | 6 => c6 | 7 => c7 | 8 => c8 | 9 => c9 | 10 => c10 | 11 => c11 | _ => c12, fun k => match k with
      | 0 => i0 | 1 => i1 | 2 => i2 | 3 => i3 | 4 => i4 | 5 => i5 | 6 => i6 | 7 => i7 | 8 => i8 | 9 => i9 | 10 => i10 | 11 => i11 | _ => i12, ?_⟩
    intro k q hq
    match k, hq with
    | 0, hq => cases hq; exact k0
    | 1, hq => cases hq; exact k1
    | 2, hq => cases hq; exact k2
    | 3, hq => cases hq; exact k3
    | 4, hq => cases hq; exact k4
    | 5, hq => cases hq; exact k5
    | 6, hq => cases hq; exact k6
    | 7, hq => cases hq; exact k7
    | 8, hq => cases hq; exact k8
    | 9, hq => cases hq; exact k9
    | 10, hq => cases hq; exact k10
    | 11, hq => cases hq; exact k11
    | 12, hq => cases hq; exact k12
    | k + 13, hq =>
      rw [List.getElem?_eq_none (by show 13 ≤ k + 13; omega)] at hq
      cases hq
  obtain ⟨a20, x20, y20⟩ := prim_arr (ty := .int) (hTB _ ac_int) (fun c h => h)
  obtain ⟨a21, x21, y21⟩ := prim_arr (ty := .long) (hTB _ ac_long) (fun c h => h)
  obtain ⟨a22, x22, y22⟩ := prim_arr (ty := .byte) (hTB _ ac_byte) (fun c h => h)
  obtain ⟨a23, x23, y23⟩ := prim_arr (ty := .short) (hTB _ ac_short) (fun c h => h)
  obtain ⟨a24, x24, y24⟩ := prim_arr (ty := .boolean) (hTB _ ac_boolean) (fun c h => h)
  obtain ⟨a25, x25, y25⟩ := obj_arr (tb 149 tb_149)
  obtain ⟨a26, x26, y26⟩ := obj_arr (tb 163 tb_163)
  obtain ⟨a27, x27, y27⟩ := obj_arr (tb 182 tb_182)
  obtain ⟨cA, hcA⟩ : ∃ cA : Nat → ClassId, ∀ (k : Nat) (q : ClassId × FieldType), (mbTys cA)[k]? = some q → ArrOfT s q.1 q.2 ∧ va_RA s q.1 q.2 := by
    refine ⟨fun k => match k with
      | 20 => a20 | 21 => a21 | 22 => a22 | 23 => a23 | 24 => a24 | 25 => a25 | 26 => a26 | _ => a27, ?_⟩
    intro k q hq
    match k, hq with
    | 0, hq => cases hq; exact ⟨x20, y20⟩
    | 1, hq => cases hq; exact ⟨x21, y21⟩
    | 2, hq => cases hq; exact ⟨x22, y22⟩
    | 3, hq => cases hq; exact ⟨x23, y23⟩
    | 4, hq => cases hq; exact ⟨x24, y24⟩
    | 5, hq => cases hq; exact ⟨x25, y25⟩
    | 6, hq => cases hq; exact ⟨x26, y26⟩
    | 7, hq => cases hq; exact ⟨x27, y27⟩
    | k + 8, hq =>
      rw [List.getElem?_eq_none (by show 8 ≤ k + 8; omega)] at hq
      cases hq
  have hNs : ∀ w ∈ mbNs, va_Nw w s := by
    intro w hw
    have h := hts w (List.mem_append_right _ (List.mem_filter.mp hw).1)
    obtain ⟨a, i, x, y, rfl⟩ := mb_nest hw
    exact va_Nw.of rfl h
  have three : ∀ i : Nat, i < 3 → i = 0 ∨ i = 1 ∨ i = 2 := fun i h => by omega
  obtain ⟨adK, adV, hvs, hev⟩ := vk_Sof (args := #[Value.ref b]) (s := s) (N := 3) (tm := tmS) (len := mbLen) (byt := mbByt) (A := fun q : Nat => s.heap.size ≤ q)
    (fun i hi => by rcases three i hi with rfl | rfl | rfl <;> decide)
    (fun i hi => by rcases three i hi with rfl | rfl | rfl; exact fl 189 fl_189; exact fl 76 fl_76; exact fl 288 fl_288)
    (fun i hi => by rcases three i hi with rfl | rfl | rfl; exact fl 190 fl_190; exact fl 77 fl_77; exact fl 289 fl_289)
    (fun i hi => by rcases three i hi with rfl | rfl | rfl; exact fl 191 fl_191; exact fl 78 fl_78; exact fl 290 fl_290)
    (fun i hi => by rcases three i hi with rfl | rfl | rfl; exact fl 192 fl_192; exact fl 79 fl_79; exact fl 291 fl_291)
    (fun i hi j hj => by
      rcases three i hi with rfl | rfl | rfl
      · exact fl _ (fl_el0 ⟨j, hj⟩)
      · exact fl _ (fl_el1 ⟨j, hj⟩)
      · exact fl _ (fl_el2 ⟨j, hj⟩))
    (fun i j hi hj hij => by
      rcases three i hi with rfl | rfl | rfl
      · rcases three j hj with rfl | rfl | rfl
        · exact absurd rfl hij
        · exact Or.inr (fl 286 fl_286)
        · exact Or.inl (fl 306 fl_306)
      · rcases three j hj with rfl | rfl | rfl
        · exact Or.inl (fl 286 fl_286)
        · exact absurd rfl hij
        · exact Or.inl (fl 304 fl_304)
      · rcases three j hj with rfl | rfl | rfl
        · exact Or.inr (fl 306 fl_306)
        · exact Or.inr (fl 304 fl_304)
        · exact absurd rfl hij)
    hA
  have e82 : (Term.string "MinuteBook$Reader" 82).eval #[Value.ref b] s none [] s = some (.ref (adK 2)) := by
    obtain ⟨a, c, cB, kB, q1, -⟩ := Cond.exactly_spec (args := #[Value.ref b]) (first := s) (o := none) (s := s) (idx := []) (t := Term.string "MinuteBook$Reader" 82) (cls := "java/lang/String") (fl 172 fl_172)
    have h2 := va_eqR (fl 305 fl_305) q1
    rw [hev 2 (by decide)] at h2
    have h3 : adK 2 = a := by
      injection h2 with h2
      injection h2
    rw [h3]
    exact q1
  obtain ⟨tA, htA, hTA⟩ := va_Tof (args := #[Value.ref b]) (s := s) (tm := .static "MinuteBook" "PASSES_ABOVE" "[I") (ty := .int) (N := 11) (f := fun j => .int (Int32.ofInt (mbAb.getD j 0))) (A := fun q : Nat => s.heap.size ≤ q) (by decide) (fl 10 fl_10) (va_eqt (fl 11 fl_11)) (fun j hj => va_eqt (fl _ (fl_ab ⟨j, hj⟩))) hA
  obtain ⟨tB, htB, hTB2⟩ := va_Tof (args := #[Value.ref b]) (s := s) (tm := .static "MinuteBook" "PASSES_BELOW" "[I") (ty := .int) (N := 11) (f := fun j => .int (Int32.ofInt (mbBe.getD j 0))) (A := fun q : Nat => s.heap.size ≤ q) (by decide) (fl 24 fl_24) (va_eqt (fl 25 fl_25)) (fun j hj => va_eqt (fl _ (fl_be ⟨j, hj⟩))) hA
  have zA := va_Zof (A := fun q : Nat => s.heap.size ≤ q) (tb 1274 tb_1274) (tb 1 tb_1) htA hA
  have zB := va_Zof (A := fun q : Nat => s.heap.size ≤ q) (tb 1276 tb_1276) (tb 1 tb_1) htB hA
  have zC := va_Zof (A := fun q : Nat => s.heap.size ≤ q) (tb 528 tb_528) (tb 16 tb_16) (va_eqt (fl 4 fl_4)) hA
  obtain ⟨tF, zF⟩ : ∃ tF : Nat, va_Z "jdk/internal/util/Preconditions" "SIOOBE_FORMATTER" "Ljava/util/function/BiFunction;" .null (fun q : Nat => s.heap.size ≤ q) s s.heap ∨ va_Z "jdk/internal/util/Preconditions" "SIOOBE_FORMATTER" "Ljava/util/function/BiFunction;" (.ref tF) (fun q : Nat => s.heap.size ≤ q) s s.heap := by
    obtain ⟨v, hv, hvr⟩ := Cond.isRef_spec (args := #[Value.ref b]) (first := s) (o := none) (s := s) (idx := []) (fl 5 fl_5)
    cases v with
    | null => exact ⟨0, Or.inl (va_Zof (tb 544 tb_544) (tb 18 tb_18) hv hA)⟩
    | ref a => exact ⟨a, Or.inr (va_Zof (tb 544 tb_544) (tb 18 tb_18) hv hA)⟩
    | int _ => cases hvr
    | long _ => cases hvr
    | float _ => cases hvr
    | double _ => cases hvr
    | retAddr _ => cases hvr
  obtain ⟨ad, h0, h3, h4, h6, h9, h10⟩ : ∃ ad : Nat → Nat, (∀ i, i < 3 → ad i = adK i) ∧ ad 3 = tA ∧ ad 4 = tB ∧ ad 6 = tF ∧ ad 9 = b ∧ ∀ i, ad (10 + i) = adV i := ⟨(fun i => if i < 3 then adK i else if i = 3 then tA else if i = 4 then tB else if i = 6 then tF else if i = 9 then b else adV (i - 10)), fun i hi => if_pos hi, rfl, rfl, rfl, rfl, fun i => by
    dsimp only
    rw [if_neg (by omega), if_neg (by omega), if_neg (by omega), if_neg (by omega), if_neg (by omega), show 10 + i - 10 = i by omega]⟩
  have hvs2 : vk_S 3 mbLen mbByt ad (fun i => ad (10 + i)) (fun q : Nat => s.heap.size ≤ q) s s.heap := by
    obtain ⟨v1, v2⟩ := hvs
    refine ⟨fun i hi => ?_, fun i j hi hj e => v2 i j hi hj ?_⟩
    · dsimp only
      rw [h0 i hi, h10 i]
      exact v1 i hi
    · rw [h0 i hi, h0 j hj] at e
      exact e
  have r0 : vk_R RX12 94 " book tone heat member mark saying up down warm cool would closes stroke last who and or not " (ad 0) s := vk_R.of (tb 1483 tb_1483) (by rw [h0 0 (by decide)]; exact hev 0 (by decide))
  have r1 : vk_R RX6 90 "book tone heat member mark saying up down warm cool would closes stroke or and not last who " (ad 1) s := vk_R.of (tb 518 tb_518) (by rw [h0 1 (by decide)]; exact hev 1 (by decide))
  have r2 : vk_R RX12 132 ";:+-*()[]=<>" (ad 2) s := vk_R.of (tb 1489 tb_1489) (by rw [h0 2 (by decide)]; exact hev 2 (by decide))
  have r3 : vk_R RX6 82 ";:+-*()[]=<>" (ad 2) s := vk_R.of (tb 582 tb_582) (by rw [h0 2 (by decide)]; exact e82)
  have hSI : mbSI ((dC, dI), cA, s.heap.size, ad) s s.heap := by
    refine ⟨⟨hKc, hcA⟩, hNs, hvs2, ⟨r0, r1, r2, r3⟩, ⟨va_AO.of (tb 149 tb_149), va_AO.of (tb 163 tb_163), va_AO.of (tb 182 tb_182)⟩, ⟨?_, ?_, zC, ?_⟩, ?_, ?_, Nat.le_refl _⟩
    · show va_Z RX11 "PASSES_ABOVE" "[I" (.ref (ad 3)) _ s s.heap
      rw [h3]
      exact zA
    · show va_Z RX11 "PASSES_BELOW" "[I" (.ref (ad 4)) _ s s.heap
      rw [h4]
      exact zB
    · show va_Z _ _ _ .null _ s s.heap ∨ va_Z _ _ _ (.ref (ad 6)) _ s s.heap
      rw [h6]
      exact zF
    · show va_T .int (ad 3) 11 _ _ s s.heap
      rw [h3]
      exact hTA
    · show va_T .int (ad 4) 11 _ _ s s.heap
      rw [h4]
      exact hTB2
  rw [lg_entry_eq]
  have he := lv_entry ([Value.ref b] : List Value) (n := 4) (Nat.le_of_ble_eq_true rfl)
  have hh := L_start (nm := meth.name) (b0 := b) (xs := xs) (ct := fun _ _ => 0) hL p l e s m #[Value.ref b] below meth c ((dC, dI), cA, s.heap.size, ad) ⟨hx, hb, hml, hr, hlocks, rfl, hown, hTB, hSI, rfl, hX, hbl, h9, rfl⟩ s.heap [] _ ⟨⟨rfl, fun k kd n hk => by cases hk⟩, fun _ _ => rfl, fun _ h => (by cases h), ⟨he.1, he.2.1, ?_⟩, Nat.le_refl _, Nat.le_refl _⟩
  · exact hh
  · intro i v hi
    have hi0 : i = 0 := by
      match i, hi with
      | 0, _ => rfl
      | 1, hi => cases hi
      | 2, hi => cases hi
      | 3, hi => cases hi
      | i + 4, hi => cases hi
    subst hi0
    have hv : v = .inr (.inr (-11)) := by
      have h2 : some (some (.inr (.inr (-11)) : gV)) = some (some v) := hi
      injection h2 with h2
      injection h2 with h2
      exact h2.symm
    subst hv
    show _ = some (Slot.val (.ref (ad 9)))
    rw [h9]
    rfl
