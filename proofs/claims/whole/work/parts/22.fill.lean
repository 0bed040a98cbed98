/-! Arrays.fill, Math.min, Math.max -/
def flF (f : Int → Int) (n v : Int) : Int → Int := fun j => if 0 ≤ j ∧ j < n then v else f j
theorem flF_0 (f : Int → Int) (v : Int) : flF f 0 v = f := by
  funext j
  unfold flF
  rw [if_neg (by omega)]
theorem flF_step {ct : mbCt} {a i v : Int} {f : Int → Int} (h : 0 ≤ i) : wr (wa ct a (flF f i v)) a i v = wa ct a (flF f (i + 1) v) := by
  funext x j
  unfold wr wa flF
  by_cases hx : x = a
  · subst hx
    by_cases hj : j = i
    · subst hj
      rw [if_pos ⟨rfl, rfl⟩, if_pos rfl, if_pos (by omega)]
    · rw [if_neg (fun z => hj z.2), if_pos rfl, if_pos rfl]
      by_cases h2 : 0 ≤ j ∧ j < i
      · rw [if_pos h2, if_pos (by omega)]
      · rw [if_neg h2, if_neg (by omega)]
  · rw [if_neg (fun z => hx z.1), if_neg hx, if_neg hx]
theorem wa_self (ct : mbCt) (a : Int) : wa ct a (ct a) = ct := by
  funext x j
  unfold wa
  by_cases hx : x = a
  · rw [if_pos hx, hx]
  · rw [if_neg hx]
theorem dJ7_fill_53178_0 : decode cJ7_fill_53178 0 = .ok (.iconst 0, 1) := by decide +kernel
theorem dJ7_fill_53178_1 : decode cJ7_fill_53178 1 = .ok (.istore_n 2, 1) := by decide +kernel
theorem dJ7_fill_53178_2 : decode cJ7_fill_53178 2 = .ok (.aload_n 0, 1) := by decide +kernel
theorem dJ7_fill_53178_3 : decode cJ7_fill_53178 3 = .ok (.arraylength, 1) := by decide +kernel
theorem dJ7_fill_53178_4 : decode cJ7_fill_53178 4 = .ok (.istore_n 3, 1) := by decide +kernel
theorem dJ7_fill_53178_5 : decode cJ7_fill_53178 5 = .ok (.iload_n 2, 1) := by decide +kernel
theorem dJ7_fill_53178_6 : decode cJ7_fill_53178 6 = .ok (.iload_n 3, 1) := by decide +kernel
theorem dJ7_fill_53178_7 : decode cJ7_fill_53178 7 = .ok (.if_icmp .ge 13, 3) := by decide +kernel
theorem dJ7_fill_53178_10 : decode cJ7_fill_53178 10 = .ok (.aload_n 0, 1) := by decide +kernel
theorem dJ7_fill_53178_11 : decode cJ7_fill_53178 11 = .ok (.iload_n 2, 1) := by decide +kernel
theorem dJ7_fill_53178_12 : decode cJ7_fill_53178 12 = .ok (.iload_n 1, 1) := by decide +kernel
theorem dJ7_fill_53178_13 : decode cJ7_fill_53178 13 = .ok (.iastore, 1) := by decide +kernel
theorem dJ7_fill_53178_14 : decode cJ7_fill_53178 14 = .ok (.iinc 2 1, 3) := by decide +kernel
theorem dJ7_fill_53178_17 : decode cJ7_fill_53178 17 = .ok (.goto (-12), 3) := by decide +kernel
theorem dJ7_fill_53178_20 : decode cJ7_fill_53178 20 = .ok (.return_, 1) := by decide +kernel
theorem dJ7_fill_d0a16_0 : decode cJ7_fill_d0a16 0 = .ok (.iconst 0, 1) := by decide +kernel
theorem dJ7_fill_d0a16_1 : decode cJ7_fill_d0a16 1 = .ok (.istore_n 3, 1) := by decide +kernel
theorem dJ7_fill_d0a16_2 : decode cJ7_fill_d0a16 2 = .ok (.aload_n 0, 1) := by decide +kernel
theorem dJ7_fill_d0a16_3 : decode cJ7_fill_d0a16 3 = .ok (.arraylength, 1) := by decide +kernel
theorem dJ7_fill_d0a16_4 : decode cJ7_fill_d0a16 4 = .ok (.istore 4, 2) := by decide +kernel
theorem dJ7_fill_d0a16_6 : decode cJ7_fill_d0a16 6 = .ok (.iload_n 3, 1) := by decide +kernel
theorem dJ7_fill_d0a16_7 : decode cJ7_fill_d0a16 7 = .ok (.iload 4, 2) := by decide +kernel
theorem dJ7_fill_d0a16_9 : decode cJ7_fill_d0a16 9 = .ok (.if_icmp .ge 13, 3) := by decide +kernel
theorem dJ7_fill_d0a16_12 : decode cJ7_fill_d0a16 12 = .ok (.aload_n 0, 1) := by decide +kernel
theorem dJ7_fill_d0a16_13 : decode cJ7_fill_d0a16 13 = .ok (.iload_n 3, 1) := by decide +kernel
theorem dJ7_fill_d0a16_14 : decode cJ7_fill_d0a16 14 = .ok (.lload_n 1, 1) := by decide +kernel
theorem dJ7_fill_d0a16_15 : decode cJ7_fill_d0a16 15 = .ok (.lastore, 1) := by decide +kernel
theorem dJ7_fill_d0a16_16 : decode cJ7_fill_d0a16 16 = .ok (.iinc 3 1, 3) := by decide +kernel
theorem dJ7_fill_d0a16_19 : decode cJ7_fill_d0a16 19 = .ok (.goto (-13), 3) := by decide +kernel
theorem dJ7_fill_d0a16_22 : decode cJ7_fill_d0a16 22 = .ok (.return_, 1) := by decide +kernel
theorem dJ7_fill_031fb_0 : decode cJ7_fill_031fb 0 = .ok (.iconst 0, 1) := by decide +kernel
theorem dJ7_fill_031fb_1 : decode cJ7_fill_031fb 1 = .ok (.istore_n 2, 1) := by decide +kernel
theorem dJ7_fill_031fb_2 : decode cJ7_fill_031fb 2 = .ok (.aload_n 0, 1) := by decide +kernel
theorem dJ7_fill_031fb_3 : decode cJ7_fill_031fb 3 = .ok (.arraylength, 1) := by decide +kernel
theorem dJ7_fill_031fb_4 : decode cJ7_fill_031fb 4 = .ok (.istore_n 3, 1) := by decide +kernel
theorem dJ7_fill_031fb_5 : decode cJ7_fill_031fb 5 = .ok (.iload_n 2, 1) := by decide +kernel
theorem dJ7_fill_031fb_6 : decode cJ7_fill_031fb 6 = .ok (.iload_n 3, 1) := by decide +kernel
theorem dJ7_fill_031fb_7 : decode cJ7_fill_031fb 7 = .ok (.if_icmp .ge 13, 3) := by decide +kernel
theorem dJ7_fill_031fb_10 : decode cJ7_fill_031fb 10 = .ok (.aload_n 0, 1) := by decide +kernel
theorem dJ7_fill_031fb_11 : decode cJ7_fill_031fb 11 = .ok (.iload_n 2, 1) := by decide +kernel
theorem dJ7_fill_031fb_12 : decode cJ7_fill_031fb 12 = .ok (.iload_n 1, 1) := by decide +kernel
theorem dJ7_fill_031fb_13 : decode cJ7_fill_031fb 13 = .ok (.bastore, 1) := by decide +kernel
theorem dJ7_fill_031fb_14 : decode cJ7_fill_031fb 14 = .ok (.iinc 2 1, 3) := by decide +kernel
theorem dJ7_fill_031fb_17 : decode cJ7_fill_031fb 17 = .ok (.goto (-12), 3) := by decide +kernel
theorem dJ7_fill_031fb_20 : decode cJ7_fill_031fb 20 = .ok (.return_, 1) := by decide +kernel
section
variable (d : Nat) (sh : mbSh) (ct : mbCt)
theorem c_fillI {a v : Int} {n : Nat} (hs : shA sh a = some (20, n)) (hn : n < 2147483648) : Mt YJ7_fill_53178 d [.inr (.inr a), .inl v] sh sh ct (pN fun c => c = wa ct a (flF (ct a) n v)) := by
  refine Mt.of rfl (Nat.le_of_ble_eq_true rfl) ?_
  show G _ 0 [some (.inr (.inr a)), some (.inl v), none, none] [] sh ct
  have hs' : shA sh a = some (20, n) := hs
  have loop : ∀ (k : Nat) (i : Int), 0 ≤ i → i + k = n → G (mkK YJ7_fill_53178 d sh sh (pN fun c => c = wa ct a (flF (ct a) n v))) 5 [some (.inr (.inr a)), some (.inl v), some (.inl i), some (.inl n)] [] sh (wa ct a (flF (ct a) i v)) := by
    intro k
    induction k with
    | zero =>
      intro i h0 h1
      refine g_iload_n (q := 6) dJ7_fill_53178_5 rfl rfl ?_
      refine g_iload_n (q := 7) dJ7_fill_53178_6 rfl rfl ?_
      refine g_icmp_ge (q := 10) (tg := 20) dJ7_fill_53178_7 (by decide) rfl (fun c_7 => ?_) (fun c_7 => ?_)
      · refine g_return dJ7_fill_53178_20 rfl ?_
        exact ⟨rfl, by rw [show i = n by omega]⟩
      · exact absurd c_7 (by unfold w32; omega)
    | succ k ih =>
      intro i h0 h1
      refine g_iload_n (q := 6) dJ7_fill_53178_5 rfl rfl ?_
      refine g_iload_n (q := 7) dJ7_fill_53178_6 rfl rfl ?_
      refine g_icmp_ge (q := 10) (tg := 20) dJ7_fill_53178_7 (by decide) rfl (fun c_7 => ?_) (fun c_7 => ?_)
      · exact absurd c_7 (by unfold w32; omega)
      · refine g_aload_n (q := 11) dJ7_fill_53178_10 rfl rfl ?_
        refine g_iload_n (q := 12) dJ7_fill_53178_11 rfl rfl ?_
        refine g_iload_n (q := 13) dJ7_fill_53178_12 rfl rfl ?_
        refine g_iastore (q := 14) (by first | assumption | exact S.at _ rfl) (by omega) (by omega) (by omega) dJ7_fill_53178_13 rfl ?_
        rw [flF_step h0]
        refine s_iinc_4_2 (q := 17) dJ7_fill_53178_14 rfl rfl rfl ?_
        refine g_goto (q := 5) dJ7_fill_53178_17 (by decide) ?_
        exact ih (i + 1) (by omega) (by omega)
  refine g_iconst (q := 1) dJ7_fill_53178_0 rfl ?_
  refine s_istore_n_4_2 (q := 2) dJ7_fill_53178_1 rfl rfl rfl ?_
  refine g_aload_n (q := 3) dJ7_fill_53178_2 rfl rfl ?_
  refine g_alen (q := 4) (by first | assumption | exact S.at _ rfl) (by decide) dJ7_fill_53178_3 rfl rfl ?_
  refine s_istore_n_4_3 (q := 5) dJ7_fill_53178_4 rfl rfl rfl ?_
  have h := loop n 0 (by omega) (by omega)
  rw [flF_0, wa_self] at h
  exact h
theorem c_fillL {a v : Int} {n : Nat} (hs : shA sh a = some (21, n)) (hn : n < 2147483648) : Mt YJ7_fill_d0a16 d [.inr (.inr a), .inr (.inl v)] sh sh ct (pN fun c => c = wa ct a (flF (ct a) n v)) := by
  refine Mt.of rfl (Nat.le_of_ble_eq_true rfl) ?_
  show G _ 0 [some (.inr (.inr a)), some (.inr (.inl v)), none, none, none] [] sh ct
  have loop : ∀ (k : Nat) (i : Int), 0 ≤ i → i + k = n → G (mkK YJ7_fill_d0a16 d sh sh (pN fun c => c = wa ct a (flF (ct a) n v))) 6 [some (.inr (.inr a)), some (.inr (.inl v)), none, some (.inl i), some (.inl n)] [] sh (wa ct a (flF (ct a) i v)) := by
    intro k
    induction k with
    | zero =>
      intro i h0 h1
      refine g_iload_n (q := 7) dJ7_fill_d0a16_6 rfl rfl ?_
      refine g_iload (q := 9) dJ7_fill_d0a16_7 rfl rfl ?_
      refine g_icmp_ge (q := 12) (tg := 22) dJ7_fill_d0a16_9 (by decide) rfl (fun c_9 => ?_) (fun c_9 => ?_)
      · refine g_return dJ7_fill_d0a16_22 rfl ?_
        exact ⟨rfl, by rw [show i = n by omega]⟩
      · exact absurd c_9 (by unfold w32; omega)
    | succ k ih =>
      intro i h0 h1
      refine g_iload_n (q := 7) dJ7_fill_d0a16_6 rfl rfl ?_
      refine g_iload (q := 9) dJ7_fill_d0a16_7 rfl rfl ?_
      refine g_icmp_ge (q := 12) (tg := 22) dJ7_fill_d0a16_9 (by decide) rfl (fun c_9 => ?_) (fun c_9 => ?_)
      · exact absurd c_9 (by unfold w32; omega)
      · refine g_aload_n (q := 13) dJ7_fill_d0a16_12 rfl rfl ?_
        refine g_iload_n (q := 14) dJ7_fill_d0a16_13 rfl rfl ?_
        refine g_lload_n (q := 15) dJ7_fill_d0a16_14 rfl rfl ?_
        refine g_lastore (q := 16) (by first | assumption | exact S.at _ rfl) (by omega) (by omega) (by omega) dJ7_fill_d0a16_15 rfl ?_
        rw [flF_step h0]
        refine s_iinc_5_3 (q := 19) dJ7_fill_d0a16_16 rfl rfl rfl ?_
        refine g_goto (q := 6) dJ7_fill_d0a16_19 (by decide) ?_
        exact ih (i + 1) (by omega) (by omega)
  refine g_iconst (q := 1) dJ7_fill_d0a16_0 rfl ?_
  refine s_istore_n_5_3 (q := 2) dJ7_fill_d0a16_1 rfl rfl rfl ?_
  refine g_aload_n (q := 3) dJ7_fill_d0a16_2 rfl rfl ?_
  refine g_alen (q := 4) (by first | assumption | exact S.at _ rfl) (by decide) dJ7_fill_d0a16_3 rfl rfl ?_
  refine s_istore_5_4 (q := 6) dJ7_fill_d0a16_4 rfl rfl rfl ?_
  have h := loop n 0 (by omega) (by omega)
  rw [flF_0, wa_self] at h
  exact h
theorem c_fillB {a v : Int} {n : Nat} (hs : shA sh a = some (22, n)) (hn : n < 2147483648) (hv : w8 v = v) : Mt YJ7_fill_031fb d [.inr (.inr a), .inl v] sh sh ct (pN fun c => c = wa ct a (flF (ct a) n v)) := by
  refine Mt.of rfl (Nat.le_of_ble_eq_true rfl) ?_
  show G _ 0 [some (.inr (.inr a)), some (.inl v), none, none] [] sh ct
  have loop : ∀ (k : Nat) (i : Int), 0 ≤ i → i + k = n → G (mkK YJ7_fill_031fb d sh sh (pN fun c => c = wa ct a (flF (ct a) n v))) 5 [some (.inr (.inr a)), some (.inl v), some (.inl i), some (.inl n)] [] sh (wa ct a (flF (ct a) i v)) := by
    intro k
    induction k with
    | zero =>
      intro i h0 h1
      refine g_iload_n (q := 6) dJ7_fill_031fb_5 rfl rfl ?_
      refine g_iload_n (q := 7) dJ7_fill_031fb_6 rfl rfl ?_
      refine g_icmp_ge (q := 10) (tg := 20) dJ7_fill_031fb_7 (by decide) rfl (fun c_7 => ?_) (fun c_7 => ?_)
      · refine g_return dJ7_fill_031fb_20 rfl ?_
        exact ⟨rfl, by rw [show i = n by omega]⟩
      · exact absurd c_7 (by unfold w32; omega)
    | succ k ih =>
      intro i h0 h1
      refine g_iload_n (q := 6) dJ7_fill_031fb_5 rfl rfl ?_
      refine g_iload_n (q := 7) dJ7_fill_031fb_6 rfl rfl ?_
      refine g_icmp_ge (q := 10) (tg := 20) dJ7_fill_031fb_7 (by decide) rfl (fun c_7 => ?_) (fun c_7 => ?_)
      · exact absurd c_7 (by unfold w32; omega)
      · refine g_aload_n (q := 11) dJ7_fill_031fb_10 rfl rfl ?_
        refine g_iload_n (q := 12) dJ7_fill_031fb_11 rfl rfl ?_
        refine g_iload_n (q := 13) dJ7_fill_031fb_12 rfl rfl ?_
        refine g_bastore (q := 14) (by first | assumption | exact S.at _ rfl) (by omega) (by omega) (by omega) dJ7_fill_031fb_13 rfl ?_
        rw [hv, flF_step h0]
        refine s_iinc_4_2 (q := 17) dJ7_fill_031fb_14 rfl rfl rfl ?_
        refine g_goto (q := 5) dJ7_fill_031fb_17 (by decide) ?_
        exact ih (i + 1) (by omega) (by omega)
  refine g_iconst (q := 1) dJ7_fill_031fb_0 rfl ?_
  refine s_istore_n_4_2 (q := 2) dJ7_fill_031fb_1 rfl rfl rfl ?_
  refine g_aload_n (q := 3) dJ7_fill_031fb_2 rfl rfl ?_
  refine g_alen (q := 4) (by first | assumption | exact S.at _ rfl) (by decide) dJ7_fill_031fb_3 rfl rfl ?_
  refine s_istore_n_4_3 (q := 5) dJ7_fill_031fb_4 rfl rfl rfl ?_
  have h := loop n 0 (by omega) (by omega)
  rw [flF_0, wa_self] at h
  exact h
end
