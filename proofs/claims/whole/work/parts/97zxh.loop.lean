/-! the law's loop, from its begin to its end -/
section
variable {K : mbK} {pc : Nat} {st : List gV} {sh : mbSh} {ct : mbCt} {x : Int}
theorem s_astore_n_4_1 {o0 o1 o2 o3 : Option gV} (hd : decode K.1.2.1 pc = .ok (.astore_n 1, 1)) (hdr : dropL o0 = o0) (hn : K.1.2.2.1 = 4) {q : Nat} (hq : pc + 1 = q) (k : G K q [o0, some (.inr (.inr x)), o2, o3] st sh ct) : G K pc [o0, o1, o2, o3] (.inr (.inr x) :: st) sh ct := g_astore_n hd (by rw [hn]; decide) (by show _ = _; simp only [stA, hdr]) hq k
theorem s_astore_n_4_2 {o0 o1 o2 o3 : Option gV} (hd : decode K.1.2.1 pc = .ok (.astore_n 2, 1)) (hdr : dropL o1 = o1) (hn : K.1.2.2.1 = 4) {q : Nat} (hq : pc + 1 = q) (k : G K q [o0, o1, some (.inr (.inr x)), o3] st sh ct) : G K pc [o0, o1, o2, o3] (.inr (.inr x) :: st) sh ct := g_astore_n hd (by rw [hn]; decide) (by show _ = _; simp only [stA, hdr]) hq k
end
theorem new_is {ct : mbCt} {a : Int} {kd n : Nat} {dl : List Int} (h : (List.range n).map (fun j => dflt (tyOf kd j)) = dl) : cellIs (wa ct a (fun j => dflt (tyOf kd j.toNat)) a) (some dl) := by
  intro k v hv
  rw [wa_eq, Int.toNat_natCast]
  rw [← h, List.getElem?_map] at hv
  obtain ⟨j, hj, e⟩ := Option.map_eq_some_iff.mp hv
  have hj2 : j = k := by
    by_cases hkn : k < n
    · rw [List.getElem?_range hkn] at hj
      exact (Option.some.inj hj).symm
    · rw [List.getElem?_eq_none (by rw [List.length_range]; omega)] at hj
      cases hj
  rw [hj2] at e
  exact e
section
variable {nm : String} {b0 L : Nat} {xs : Nat → Int32} {sh : mbSh} {ct : mbCt} {ls : List (Option gV)}
theorem rmT {k d : Nat} (hd : d < 1200) (hk : k ≤ 114) : rmOk (KL nm b0 L xs) d (SHL.take k) := by
  have h := shT_le hk
  rw [show SHL.take 114 = SHL from rfl] at h
  have h1 := h.1
  have h2 := h.2
  have h3 := ssz_b
  have h4 : SHL.length = 114 := rfl
  refine ⟨?_, ?_, ?_, ?_⟩
  · show d + 1 ≤ 2048
    omega
  · show 64 * (d + 1) ≤ 84000
    omega
  · show (SHL.take k).length - 0 ≤ 600000
    omega
  · show ssz (SHL.take k) - 0 ≤ 7302249
    omega
theorem L_end {N : Nat} (R : RMs sh N) : G (KL nm b0 L xs) 1496 ls [] sh ct := by
  refine g_iconst (q := 1497) dL_law_1496 rfl ?_
  intro p l e s m args below meth c E C0 H locs lsv Rr
  obtain ⟨hargs, -, -, -, hsz⟩ := C0.2.2.2.2.2.2.2.2.2
  subst hargs
  obtain ⟨-, -, h2, h3, j, hj⟩ := R
  have h4 := (ndM_b j j).1
  refine va_forget (fun q hq => by rw [hsz]; exact Rr.2.2.1 q hq) ?_
  refine W.widen (k := 600000) (n := 7302249) (by show sh.length - 0 ≤ 600000; omega) (by show ssz sh - 0 ≤ 7302249; omega) ?_
  show W p l e room_1 s m #[Value.ref b0] below meth c H [] 600000 7302249 (lw_Z below #[Value.ref b0] s) (F0 m 1497 lsv [.int (Int32.ofInt 1)])
  rw [show Int32.ofInt 1 = 1 from rfl]
  exact lw_ret C0.1 C0.2.1 C0.2.2.2.1 C0.2.2.2.2.1 dL_law_1497
theorem L_loop (hL : L ≤ 3072) : ∀ (M : Nat) (i : Int) (sh : mbSh) (ct : mbCt), (L : Int) + 6 ≤ i + M → 0 ≤ i → i ≤ (L : Int) → INV sh ct (4 * i) → G (KL nm b0 L xs) 18 [some (.inr (.inr (-11))), some (.inr (.inr 0)), some (.inr (.inr 92)), some (.inl i)] [] sh ct := by
  intro M
  induction M with
  | zero =>
    intro i sh ct h1 h2 h3 I
    exfalso
    omega
  | succ M ih =>
    intro i sh ct h1 hi0 h3 I
    have hR : ∃ N, RMs sh N := by
      obtain ⟨b, o, β, s, n, pl, q, N, hi, bi, si, sz, bt, vl, tn, C, M, J, R⟩ := I
      exact ⟨N, R⟩
    obtain ⟨N, R⟩ := hR
    refine g_iload_n (q := 19) dL_law_18 rfl rfl ?_
    refine g_aload_n (q := 20) dL_law_19 rfl rfl ?_
    refine g_slen (q := 21) hL dL_law_20 rfl ?_
    refine g_bipush (q := 23) dL_law_21 (by decide +kernel) rfl ?_
    refine g_isub (q := 24) dL_law_23 rfl ?_
    refine g_icmp_gt (q := 27) (tg := 1496) dL_law_24 (by decide) rfl (fun c_24 => ?_) (fun c_24 => ?_)
    · exact L_end R
    · rw [w32_id (x := i) (by omega) (by omega), w32_id (x := (L : Int) - 6) (by omega) (by omega)] at c_24
      have hiL : i + 6 ≤ (L : Int) := by omega
      have kk : ∀ sh2 ct2, INV sh2 ct2 (4 * (i + 6)) → G (KL nm b0 L xs) 1490 [some (.inr (.inr (-11))), some (.inr (.inr 0)), some (.inr (.inr 92)), some (.inl i)] [] sh2 ct2 := by
        intro sh2 ct2 I2
        refine s_iinc_4_3 (q := 1493) dL_law_1490 rfl rfl rfl ?_
        refine g_goto (q := 18) dL_law_1493 (by decide) ?_
        exact ih (i + 6) sh2 ct2 (by omega) (by omega) (by omega) I2
      refine g_aload_n (q := 28) dL_law_27 rfl rfl ?_
      refine g_iload_n (q := 29) dL_law_28 rfl rfl ?_
      refine g_sld (q := 30) hi0 hiL (by omega) (by omega) dL_law_29 rfl ?_
      refine g_bipush (q := 32) dL_law_30 (by decide +kernel) rfl ?_
      refine g_iand (q := 33) dL_law_32 rfl ?_
      obtain ⟨v0, v1⟩ := and63 (sv xs i)
      generalize andI (sv xs i) 63 = v at v0 v1
      have wv : w32 v = v := w32_id (by omega) (by omega)
      by_cases hv : 43 < v
      · refine g_tabOut (q := 1490) dL_law_33 (Or.inr (by rw [wv]; exact hv)) (by decide) ?_
        refine kk sh ct ?_
        obtain ⟨b, o, β, s, n, pl, q, N, hi, bi, si, sz, bt, vl, tn, C, M, J, R⟩ := I
        exact ⟨b, o, β, s, n, pl, q, N, hi, bi, si, sz, bt, vl, tn, C.up (by omega) (by omega), M, J, R⟩
      · have hc : v = 0 ∨ v = 1 ∨ v = 2 ∨ v = 3 ∨ v = 4 ∨ v = 5 ∨ v = 6 ∨ v = 7 ∨ v = 8 ∨ v = 9 ∨ v = 10 ∨ v = 11 ∨ v = 12 ∨ v = 13 ∨ v = 14 ∨ v = 15 ∨ v = 16 ∨ v = 17 ∨ v = 18 ∨ v = 19 ∨ v = 20 ∨ v = 21 ∨ v = 22 ∨ v = 23 ∨ v = 24 ∨ v = 25 ∨ v = 26 ∨ v = 27 ∨ v = 28 ∨ v = 29 ∨ v = 30 ∨ v = 31 ∨ v = 32 ∨ v = 33 ∨ v = 34 ∨ v = 35 ∨ v = 36 ∨ v = 37 ∨ v = 38 ∨ v = 39 ∨ v = 40 ∨ v = 41 ∨ v = 42 ∨ v = 43 := by omega
        rcases hc with hv2 | hv2 | hv2 | hv2 | hv2 | hv2 | hv2 | hv2 | hv2 | hv2 | hv2 | hv2 | hv2 | hv2 | hv2 | hv2 | hv2 | hv2 | hv2 | hv2 | hv2 | hv2 | hv2 | hv2 | hv2 | hv2 | hv2 | hv2 | hv2 | hv2 | hv2 | hv2 | hv2 | hv2 | hv2 | hv2 | hv2 | hv2 | hv2 | hv2 | hv2 | hv2 | hv2 | hv2
        · exact g_tabIn (q := 224) dL_law_33 0 (by rw [wv, hv2]) (by decide) (by decide) rfl (by decide) (L_feed hL hi0 hiL I kk)
        · exact g_tabIn (q := 287) dL_law_33 1 (by rw [wv, hv2]) (by decide) (by decide) rfl (by decide) (L_book hL hi0 hiL I kk)
        · exact g_tabIn (q := 310) dL_law_33 2 (by rw [wv, hv2]) (by decide) (by decide) rfl (by decide) (L_fault hL hi0 hiL I kk)
        · exact g_tabIn (q := 333) dL_law_33 3 (by rw [wv, hv2]) (by decide) (by decide) rfl (by decide) (L_member hL hi0 hiL I kk)
        · exact g_tabIn (q := 366) dL_law_33 4 (by rw [wv, hv2]) (by decide) (by decide) rfl (by decide) (L_saying hL hi0 hiL I kk)
        · exact g_tabIn (q := 399) dL_law_33 5 (by rw [wv, hv2]) (by decide) (by decide) rfl (by decide) (L_closed hL hi0 hiL I kk)
        · exact g_tabIn (q := 412) dL_law_33 6 (by rw [wv, hv2]) (by decide) (by decide) rfl (by decide) (L_open hL hi0 hiL I kk)
        · exact g_tabIn (q := 425) dL_law_33 7 (by rw [wv, hv2]) (by decide) (by decide) rfl (by decide) (L_say hL hi0 hiL I kk)
        · exact g_tabIn (q := 458) dL_law_33 8 (by rw [wv, hv2]) (by decide) (by decide) rfl (by decide) (L_mark hL hi0 hiL I kk)
        · exact g_tabIn (q := 491) dL_law_33 9 (by rw [wv, hv2]) (by decide) (by decide) rfl (by decide) (L_adjourn hL hi0 hiL I kk)
        · exact g_tabIn (q := 504) dL_law_33 10 (by rw [wv, hv2]) (by decide) (by decide) rfl (by decide) (L_undo hL hi0 hiL I kk)
        · exact g_tabIn (q := 527) dL_law_33 11 (by rw [wv, hv2]) (by decide) (by decide) rfl (by decide) (L_judge hL hi0 hiL I kk)
        · exact g_tabIn (q := 560) dL_law_33 12 (by rw [wv, hv2]) (by decide) (by decide) rfl (by decide) (L_perform hL hi0 hiL I kk)
        · exact g_tabIn (q := 583) dL_law_33 13 (by rw [wv, hv2]) (by decide) (by decide) rfl (by decide) (L_monday hL hi0 hiL I kk)
        · exact g_tabIn (q := 616) dL_law_33 14 (by rw [wv, hv2]) (by decide) (by decide) rfl (by decide) (L_shortest hL hi0 hiL I kk)
        · exact g_tabIn (q := 639) dL_law_33 15 (by rw [wv, hv2]) (by decide) (by decide) rfl (by decide) (L_minute hL hi0 hiL I kk)
        · exact g_tabIn (q := 672) dL_law_33 16 (by rw [wv, hv2]) (by decide) (by decide) rfl (by decide) (L_rows hL hi0 hiL I kk)
        · exact g_tabIn (q := 706) dL_law_33 17 (by rw [wv, hv2]) (by decide) (by decide) rfl (by decide) (L_without hL hi0 hiL I kk)
        · exact g_tabIn (q := 739) dL_law_33 18 (by rw [wv, hv2]) (by decide) (by decide) rfl (by decide) (L_needed hL hi0 hiL I kk)
        · exact g_tabIn (q := 762) dL_law_33 19 (by rw [wv, hv2]) (by decide) (by decide) rfl (by decide) (L_full hL hi0 hiL I kk)
        · exact g_tabIn (q := 785) dL_law_33 20 (by rw [wv, hv2]) (by decide) (by decide) rfl (by decide) (L_fullMinute hL hi0 hiL I kk)
        · exact g_tabIn (q := 818) dL_law_33 21 (by rw [wv, hv2]) (by decide) (by decide) rfl (by decide) (L_tones hL hi0 hiL I kk)
        · exact g_tabIn (q := 831) dL_law_33 22 (by rw [wv, hv2]) (by decide) (by decide) rfl (by decide) (L_calmest hL hi0 hiL I kk)
        · exact g_tabIn (q := 864) dL_law_33 23 (by rw [wv, hv2]) (by decide) (by decide) rfl (by decide) (L_keyword hL hi0 hiL I kk)
        · exact g_tabIn (q := 877) dL_law_33 24 (by rw [wv, hv2]) (by decide) (by decide) rfl (by decide) (L_baulk hL hi0 hiL I kk)
        · exact g_tabIn (q := 900) dL_law_33 25 (by rw [wv, hv2]) (by decide) (by decide) rfl (by decide) (L_errata hL hi0 hiL I kk)
        · exact g_tabIn (q := 933) dL_law_33 26 (by rw [wv, hv2]) (by decide) (by decide) rfl (by decide) (L_right hL hi0 hiL I kk)
        · exact g_tabIn (q := 976) dL_law_33 27 (by rw [wv, hv2]) (by decide) (by decide) rfl (by decide) (L_back hL hi0 hiL I kk)
        · exact g_tabIn (q := 1009) dL_law_33 28 (by rw [wv, hv2]) (by decide) (by decide) rfl (by decide) (L_lost hL hi0 hiL I kk)
        · exact g_tabIn (q := 1033) dL_law_33 29 (by rw [wv, hv2]) (by decide) (by decide) rfl (by decide) (L_sureMinute hL hi0 hiL I kk)
        · exact g_tabIn (q := 1066) dL_law_33 30 (by rw [wv, hv2]) (by decide) (by decide) rfl (by decide) (L_speakers hL hi0 hiL I kk)
        · exact g_tabIn (q := 1099) dL_law_33 31 (by rw [wv, hv2]) (by decide) (by decide) rfl (by decide) (L_kept hL hi0 hiL I kk)
        · exact g_tabIn (q := 1132) dL_law_33 32 (by rw [wv, hv2]) (by decide) (by decide) rfl (by decide) (L_attempt hL hi0 hiL I kk)
        · exact g_tabIn (q := 1165) dL_law_33 33 (by rw [wv, hv2]) (by decide) (by decide) rfl (by decide) (L_forces hL hi0 hiL I kk)
        · exact g_tabIn (q := 1188) dL_law_33 34 (by rw [wv, hv2]) (by decide) (by decide) rfl (by decide) (L_best hL hi0 hiL I kk)
        · exact g_tabIn (q := 1211) dL_law_33 35 (by rw [wv, hv2]) (by decide) (by decide) rfl (by decide) (L_power hL hi0 hiL I kk)
        · exact g_tabIn (q := 1224) dL_law_33 36 (by rw [wv, hv2]) (by decide) (by decide) rfl (by decide) (L_stroke hL hi0 hiL I kk)
        · exact g_tabIn (q := 1258) dL_law_33 37 (by rw [wv, hv2]) (by decide) (by decide) rfl (by decide) (L_likeliest hL hi0 hiL I kk)
        · exact g_tabIn (q := 1271) dL_law_33 38 (by rw [wv, hv2]) (by decide) (by decide) rfl (by decide) (L_numbers hL hi0 hiL I kk)
        · exact g_tabIn (q := 1314) dL_law_33 39 (by rw [wv, hv2]) (by decide) (by decide) rfl (by decide) (L_write hL hi0 hiL I kk)
        · exact g_tabIn (q := 1388) dL_law_33 40 (by rw [wv, hv2]) (by decide) (by decide) rfl (by decide) (L_lists hL hi0 hiL I kk)
        · exact g_tabIn (q := 1421) dL_law_33 41 (by rw [wv, hv2]) (by decide) (by decide) rfl (by decide) (L_image hL hi0 hiL I kk)
        · exact g_tabIn (q := 1444) dL_law_33 42 (by rw [wv, hv2]) (by decide) (by decide) rfl (by decide) (L_restore hL hi0 hiL I kk)
        · exact g_tabIn (q := 1467) dL_law_33 43 (by rw [wv, hv2]) (by decide) (by decide) rfl (by decide) (L_count hL hi0 hiL I kk)
theorem L_start (hL : L ≤ 3072) : G (KL nm b0 L xs) 0 [some (.inr (.inr (-11))), none, none, none] [] [] ct := by
  refine g_new (q := 3) (idI := 0) cl_11 (by decide) cL_7 in_X11 ii_X11 (show 0 + 1 - 0 ≤ 600000 by decide) (show 0 + 15 - 0 ≤ 7302249 by decide) rfl dL_law_0 rfl ?_
  have h0 : cellIs (wa ct 0 (fun j => dflt (tyOf 11 j.toNat)) 0) (some [-1, 0, -1, -1, -1, -1, -1, -1, -1, -1, -1, -1, -1, -1, -1]) := new_is (n := 15) (by decide +kernel)
  show G (KL nm b0 L xs) 3 _ _ (SHL.take 1) _
  generalize wa ct 0 (fun j => dflt (tyOf 11 j.toNat)) = c0 at h0
  refine g_dup (q := 4) dL_law_3 rfl rfl ?_
  refine g_callI (q := 7) rfl rfl lL_9 mX11_init nX11_init rfl (n_X11 0 h0) (kd := 11) (na := 15) rfl (shT_le (by decide)) (rmT (by decide) (by decide)) (Nat.le_of_ble_eq_true rfl) dL_law_4 rfl rfl (kN fun c1 hp => ?_)
  have B1 : blk c1 0 tb1 := hp.1
  refine s_astore_n_4_1 (q := 8) dL_law_7 rfl rfl rfl ?_
  refine g_new (q := 11) (idI := 92) cl_12 (by decide) cL_10 in_X12 ii_X12 (show (SHL.take 92).length + 1 - 0 ≤ 600000 by decide) (show ssz (SHL.take 92) + 35 - 0 ≤ 7302249 by decide) rfl dL_law_8 rfl ?_
  have h1 : cellIs (wa c1 92 (fun j => dflt (tyOf 12 j.toNat)) 92) (some [0, -1, -1, -1, -1, 0, 0, 0, 0, 0, 0, 0, 0, 0, 0, 0, -1, -1, -1, 0, 0, -1, -1, -1, -1, -1, -1, -1, -1, -1, -1, -1, -1, -1, -1]) := new_is (n := 35) (by decide +kernel)
  have e1 : ∀ y : Int, y < 92 → wa c1 92 (fun j => dflt (tyOf 12 j.toNat)) y = c1 y := fun y hy => by funext j; exact wa_na (by omega)
  show G (KL nm b0 L xs) 11 _ _ (SHL.take 93) _
  generalize wa c1 92 (fun j => dflt (tyOf 12 j.toNat)) = c2 at h1 e1
  refine g_dup (q := 12) dL_law_11 rfl rfl ?_
  refine g_callI (q := 15) rfl rfl lL_12 mX12_init nX12_init rfl (n_X12 0 h1) (kd := 12) (na := 35) rfl (shT_le (by decide)) (rmT (by decide) (by decide)) (Nat.le_of_ble_eq_true rfl) dL_law_12 rfl rfl (kN fun c3 hp2 => ?_)
  obtain ⟨⟨B2, l2⟩, h93⟩ := hp2
  have B3 : blk c3 0 tb1 := by
    intro j y hy
    have hj : j < 92 := (List.getElem?_eq_some_iff.mp hy).1
    rw [l2 _ (by omega), e1 _ (by omega)]
    exact B1 j y hy
  refine s_astore_n_4_2 (q := 16) dL_law_15 rfl rfl rfl ?_
  refine g_iconst (q := 17) dL_law_16 rfl ?_
  refine s_istore_n_4_3 (q := 18) dL_law_17 rfl rfl rfl ?_
  show G (KL nm b0 L xs) 18 _ _ SHL _
  exact L_loop hL (L + 6) 0 SHL c3 (by omega) (by decide) (by omega) (INV.begin B3 B2 h93)
end
