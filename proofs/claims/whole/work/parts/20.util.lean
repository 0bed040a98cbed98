/-! small static methods -/
theorem td_pos {x y : Int} (h : 0 ≤ x) : x.tdiv y = x / y := Int.tdiv_eq_ediv_of_nonneg h
theorem tm_pos {x y : Int} (h : 0 ≤ x) : x.tmod y = x % y := Int.tmod_eq_emod_of_nonneg h
def b01 (p : Prop) [Decidable p] : Int := if p then 1 else 0
theorem b01_t {p : Prop} [Decidable p] (h : p) : (1 : Int) = b01 p := (if_pos h).symm
theorem b01_f {p : Prop} [Decidable p] (h : ¬ p) : (0 : Int) = b01 p := (if_neg h).symm
theorem dX11_toneOf_0 : decode cX11_toneOf 0 = .ok (.iload_n 0, 1) := by decide +kernel
theorem dX11_toneOf_1 : decode cX11_toneOf 1 = .ok (.bipush 70, 2) := by decide +kernel
theorem dX11_toneOf_3 : decode cX11_toneOf 3 = .ok (.idiv, 1) := by decide +kernel
theorem dX11_toneOf_4 : decode cX11_toneOf 4 = .ok (.ireturn, 1) := by decide +kernel
theorem dX11_heatOf_0 : decode cX11_heatOf 0 = .ok (.iload_n 0, 1) := by decide +kernel
theorem dX11_heatOf_1 : decode cX11_heatOf 1 = .ok (.bipush 7, 2) := by decide +kernel
theorem dX11_heatOf_3 : decode cX11_heatOf 3 = .ok (.idiv, 1) := by decide +kernel
theorem dX11_heatOf_4 : decode cX11_heatOf 4 = .ok (.bipush 10, 2) := by decide +kernel
theorem dX11_heatOf_6 : decode cX11_heatOf 6 = .ok (.irem, 1) := by decide +kernel
theorem dX11_heatOf_7 : decode cX11_heatOf 7 = .ok (.ireturn, 1) := by decide +kernel
theorem dX11_lastOf_0 : decode cX11_lastOf 0 = .ok (.iload_n 0, 1) := by decide +kernel
theorem dX11_lastOf_1 : decode cX11_lastOf 1 = .ok (.bipush 7, 2) := by decide +kernel
theorem dX11_lastOf_3 : decode cX11_lastOf 3 = .ok (.irem, 1) := by decide +kernel
theorem dX11_lastOf_4 : decode cX11_lastOf 4 = .ok (.ireturn, 1) := by decide +kernel
theorem dX11_moodShown_0 : decode cX11_moodShown 0 = .ok (.iload_n 0, 1) := by decide +kernel
theorem dX11_moodShown_1 : decode cX11_moodShown 1 = .ok (.bipush 7, 2) := by decide +kernel
theorem dX11_moodShown_3 : decode cX11_moodShown 3 = .ok (.idiv, 1) := by decide +kernel
theorem dX11_moodShown_4 : decode cX11_moodShown 4 = .ok (.ireturn, 1) := by decide +kernel
theorem dX11_stateOf_0 : decode cX11_stateOf 0 = .ok (.iload_n 0, 1) := by decide +kernel
theorem dX11_stateOf_1 : decode cX11_stateOf 1 = .ok (.bipush 10, 2) := by decide +kernel
theorem dX11_stateOf_3 : decode cX11_stateOf 3 = .ok (.imul, 1) := by decide +kernel
theorem dX11_stateOf_4 : decode cX11_stateOf 4 = .ok (.iload_n 1, 1) := by decide +kernel
theorem dX11_stateOf_5 : decode cX11_stateOf 5 = .ok (.iadd, 1) := by decide +kernel
theorem dX11_stateOf_6 : decode cX11_stateOf 6 = .ok (.bipush 7, 2) := by decide +kernel
theorem dX11_stateOf_8 : decode cX11_stateOf 8 = .ok (.imul, 1) := by decide +kernel
theorem dX11_stateOf_9 : decode cX11_stateOf 9 = .ok (.iload_n 2, 1) := by decide +kernel
theorem dX11_stateOf_10 : decode cX11_stateOf 10 = .ok (.iadd, 1) := by decide +kernel
theorem dX11_stateOf_11 : decode cX11_stateOf 11 = .ok (.ireturn, 1) := by decide +kernel
theorem dX11_isTone_0 : decode cX11_isTone 0 = .ok (.iload_n 0, 1) := by decide +kernel
theorem dX11_isTone_1 : decode cX11_isTone 1 = .ok (.iconst (-1), 1) := by decide +kernel
theorem dX11_isTone_2 : decode cX11_isTone 2 = .ok (.if_icmp .lt 13, 3) := by decide +kernel
theorem dX11_isTone_5 : decode cX11_isTone 5 = .ok (.iload_n 0, 1) := by decide +kernel
theorem dX11_isTone_6 : decode cX11_isTone 6 = .ok (.bipush 9, 2) := by decide +kernel
theorem dX11_isTone_8 : decode cX11_isTone 8 = .ok (.if_icmp .gt 7, 3) := by decide +kernel
theorem dX11_isTone_11 : decode cX11_isTone 11 = .ok (.iconst 1, 1) := by decide +kernel
theorem dX11_isTone_12 : decode cX11_isTone 12 = .ok (.goto 4, 3) := by decide +kernel
theorem dX11_isTone_15 : decode cX11_isTone 15 = .ok (.iconst 0, 1) := by decide +kernel
theorem dX11_isTone_16 : decode cX11_isTone 16 = .ok (.ireturn, 1) := by decide +kernel
theorem dX11_isTray_0 : decode cX11_isTray 0 = .ok (.iload_n 0, 1) := by decide +kernel
theorem dX11_isTray_1 : decode cX11_isTray 1 = .ok (.ifCond .lt 12, 3) := by decide +kernel
theorem dX11_isTray_4 : decode cX11_isTray 4 = .ok (.iload_n 0, 1) := by decide +kernel
theorem dX11_isTray_5 : decode cX11_isTray 5 = .ok (.iconst 4, 1) := by decide +kernel
theorem dX11_isTray_6 : decode cX11_isTray 6 = .ok (.if_icmp .ge 7, 3) := by decide +kernel
theorem dX11_isTray_9 : decode cX11_isTray 9 = .ok (.iconst 1, 1) := by decide +kernel
theorem dX11_isTray_10 : decode cX11_isTray 10 = .ok (.goto 4, 3) := by decide +kernel
theorem dX11_isTray_13 : decode cX11_isTray 13 = .ok (.iconst 0, 1) := by decide +kernel
theorem dX11_isTray_14 : decode cX11_isTray 14 = .ok (.ireturn, 1) := by decide +kernel
theorem dX11_drawn_0 : decode cX11_drawn 0 = .ok (.ldc 239, 2) := by decide +kernel
theorem dX11_drawn_2 : decode cX11_drawn 2 = .ok (.iload_n 0, 1) := by decide +kernel
theorem dX11_drawn_3 : decode cX11_drawn 3 = .ok (.imul, 1) := by decide +kernel
theorem dX11_drawn_4 : decode cX11_drawn 4 = .ok (.sipush 12345, 3) := by decide +kernel
theorem dX11_drawn_7 : decode cX11_drawn 7 = .ok (.iadd, 1) := by decide +kernel
theorem dX11_drawn_8 : decode cX11_drawn 8 = .ok (.ireturn, 1) := by decide +kernel
section
variable (d : Nat) (sh : mbSh) (ct : mbCt) {x y z : Int}
theorem c_toneOf (h0 : 0 ≤ x) (h1 : x < 2147483648) : Mt YX11_toneOf d [.inl x] sh sh ct (pI fun r c => r = x / 70 ∧ c = ct) := by
  refine Mt.of rfl (Nat.le_of_ble_eq_true rfl) ?_
  show G _ 0 [some (.inl x)] [] sh ct
  refine g_iload_n (q := 1) dX11_toneOf_0 rfl rfl ?_
  refine g_bipush (q := 3) dX11_toneOf_1 (by decide +kernel) rfl ?_
  refine g_idiv (q := 4) dX11_toneOf_3 (by decide) rfl ?_
  refine g_ireturn dX11_toneOf_4 rfl ?_
  refine ⟨_, rfl, ?_, rfl⟩
  rw [w32_id (by omega) h1, td_pos h0]
  rfl
theorem c_heatOf (h0 : 0 ≤ x) (h1 : x < 2147483648) : Mt YX11_heatOf d [.inl x] sh sh ct (pI fun r c => r = x / 7 % 10 ∧ c = ct) := by
  refine Mt.of rfl (Nat.le_of_ble_eq_true rfl) ?_
  show G _ 0 [some (.inl x)] [] sh ct
  refine g_iload_n (q := 1) dX11_heatOf_0 rfl rfl ?_
  refine g_bipush (q := 3) dX11_heatOf_1 (by decide +kernel) rfl ?_
  refine g_idiv (q := 4) dX11_heatOf_3 (by decide) rfl ?_
  refine g_bipush (q := 6) dX11_heatOf_4 (by decide +kernel) rfl ?_
  refine g_irem (q := 7) dX11_heatOf_6 (by decide) rfl ?_
  refine g_ireturn dX11_heatOf_7 rfl ?_
  refine ⟨_, rfl, ?_, rfl⟩
  rw [w32_id (x := x) (by omega) h1, td_pos h0, show w32 7 = 7 from rfl, show w32 10 = 10 from rfl, w32_id (by omega) (by omega), tm_pos (by omega)]
theorem c_lastOf (h0 : 0 ≤ x) (h1 : x < 2147483648) : Mt YX11_lastOf d [.inl x] sh sh ct (pI fun r c => r = x % 7 ∧ c = ct) := by
  refine Mt.of rfl (Nat.le_of_ble_eq_true rfl) ?_
  show G _ 0 [some (.inl x)] [] sh ct
  refine g_iload_n (q := 1) dX11_lastOf_0 rfl rfl ?_
  refine g_bipush (q := 3) dX11_lastOf_1 (by decide +kernel) rfl ?_
  refine g_irem (q := 4) dX11_lastOf_3 (by decide) rfl ?_
  refine g_ireturn dX11_lastOf_4 rfl ?_
  refine ⟨_, rfl, ?_, rfl⟩
  rw [w32_id (x := x) (by omega) h1, tm_pos h0]
  rfl
theorem c_moodShown (h0 : 0 ≤ x) (h1 : x < 2147483648) : Mt YX11_moodShown d [.inl x] sh sh ct (pI fun r c => r = x / 7 ∧ c = ct) := by
  refine Mt.of rfl (Nat.le_of_ble_eq_true rfl) ?_
  show G _ 0 [some (.inl x)] [] sh ct
  refine g_iload_n (q := 1) dX11_moodShown_0 rfl rfl ?_
  refine g_bipush (q := 3) dX11_moodShown_1 (by decide +kernel) rfl ?_
  refine g_idiv (q := 4) dX11_moodShown_3 (by decide) rfl ?_
  refine g_ireturn dX11_moodShown_4 rfl ?_
  refine ⟨_, rfl, ?_, rfl⟩
  rw [w32_id (x := x) (by omega) h1, td_pos h0]
  rfl
theorem c_stateOf : Mt YX11_stateOf d [.inl x, .inl y, .inl z] sh sh ct (pI fun r c => r = (x * 10 + y) * 7 + z ∧ c = ct) := by
  refine Mt.of rfl (Nat.le_of_ble_eq_true rfl) ?_
  show G _ 0 [some (.inl x), some (.inl y), some (.inl z)] [] sh ct
  refine g_iload_n (q := 1) dX11_stateOf_0 rfl rfl ?_
  refine g_bipush (q := 3) dX11_stateOf_1 (by decide +kernel) rfl ?_
  refine g_imul (q := 4) dX11_stateOf_3 rfl ?_
  refine g_iload_n (q := 5) dX11_stateOf_4 rfl rfl ?_
  refine g_iadd (q := 6) dX11_stateOf_5 rfl ?_
  refine g_bipush (q := 8) dX11_stateOf_6 (by decide +kernel) rfl ?_
  refine g_imul (q := 9) dX11_stateOf_8 rfl ?_
  refine g_iload_n (q := 10) dX11_stateOf_9 rfl rfl ?_
  refine g_iadd (q := 11) dX11_stateOf_10 rfl ?_
  refine g_ireturn dX11_stateOf_11 rfl ?_
  exact ⟨_, rfl, rfl, rfl⟩
theorem c_isTone : Mt YX11_isTone d [.inl x] sh sh ct (pI fun r c => r = b01 (-1 ≤ w32 x ∧ w32 x ≤ 9) ∧ c = ct) := by
  refine Mt.of rfl (Nat.le_of_ble_eq_true rfl) ?_
  show G _ 0 [some (.inl x)] [] sh ct
  refine g_iload_n (q := 1) dX11_isTone_0 rfl rfl ?_
  refine g_iconst (q := 2) dX11_isTone_1 rfl ?_
  refine g_icmp_lt (q := 5) (tg := 15) dX11_isTone_2 (by decide) rfl (fun c_2 => ?_) (fun c_2 => ?_)
  · refine g_iconst (q := 16) dX11_isTone_15 rfl ?_
    refine g_zreturn dX11_isTone_16 rfl (by decide +kernel) ?_
    refine ⟨_, rfl, ?_, rfl⟩; first | (apply b01_t; unfold w32 at *; omega) | (apply b01_f; unfold w32 at *; omega)
  · refine g_iload_n (q := 6) dX11_isTone_5 rfl rfl ?_
    refine g_bipush (q := 8) dX11_isTone_6 (by decide +kernel) rfl ?_
    refine g_icmp_gt (q := 11) (tg := 15) dX11_isTone_8 (by decide) rfl (fun c_8 => ?_) (fun c_8 => ?_)
    · refine g_iconst (q := 16) dX11_isTone_15 rfl ?_
      refine g_zreturn dX11_isTone_16 rfl (by decide +kernel) ?_
      refine ⟨_, rfl, ?_, rfl⟩; first | (apply b01_t; unfold w32 at *; omega) | (apply b01_f; unfold w32 at *; omega)
    · refine g_iconst (q := 12) dX11_isTone_11 rfl ?_
      refine g_goto (q := 16) dX11_isTone_12 (by decide) ?_
      refine g_zreturn dX11_isTone_16 rfl (by decide +kernel) ?_
      refine ⟨_, rfl, ?_, rfl⟩; first | (apply b01_t; unfold w32 at *; omega) | (apply b01_f; unfold w32 at *; omega)
theorem c_isTray : Mt YX11_isTray d [.inl x] sh sh ct (pI fun r c => r = b01 (0 ≤ w32 x ∧ w32 x ≤ 3) ∧ c = ct) := by
  refine Mt.of rfl (Nat.le_of_ble_eq_true rfl) ?_
  show G _ 0 [some (.inl x)] [] sh ct
  refine g_iload_n (q := 1) dX11_isTray_0 rfl rfl ?_
  refine g_if_lt (q := 4) (tg := 13) dX11_isTray_1 (by decide) rfl (fun c_1 => ?_) (fun c_1 => ?_)
  · refine g_iconst (q := 14) dX11_isTray_13 rfl ?_
    refine g_zreturn dX11_isTray_14 rfl (by decide +kernel) ?_
    refine ⟨_, rfl, ?_, rfl⟩; first | (apply b01_t; unfold w32 at *; omega) | (apply b01_f; unfold w32 at *; omega)
  · refine g_iload_n (q := 5) dX11_isTray_4 rfl rfl ?_
    refine g_iconst (q := 6) dX11_isTray_5 rfl ?_
    refine g_icmp_ge (q := 9) (tg := 13) dX11_isTray_6 (by decide) rfl (fun c_6 => ?_) (fun c_6 => ?_)
    · refine g_iconst (q := 14) dX11_isTray_13 rfl ?_
      refine g_zreturn dX11_isTray_14 rfl (by decide +kernel) ?_
      refine ⟨_, rfl, ?_, rfl⟩; first | (apply b01_t; unfold w32 at *; omega) | (apply b01_f; unfold w32 at *; omega)
    · refine g_iconst (q := 10) dX11_isTray_9 rfl ?_
      refine g_goto (q := 14) dX11_isTray_10 (by decide) ?_
      refine g_zreturn dX11_isTray_14 rfl (by decide +kernel) ?_
      refine ⟨_, rfl, ?_, rfl⟩; first | (apply b01_t; unfold w32 at *; omega) | (apply b01_f; unfold w32 at *; omega)
theorem c_drawn : Mt YX11_drawn d [.inl x] sh sh ct (pI fun r c => r = 1103515245 * x + 12345 ∧ c = ct) := by
  refine Mt.of rfl (Nat.le_of_ble_eq_true rfl) ?_
  show G _ 0 [some (.inl x)] [] sh ct
  refine g_ldc (q := 2) dX11_drawn_0 kX11_239 rfl ?_
  refine g_iload_n (q := 3) dX11_drawn_2 rfl rfl ?_
  refine g_imul (q := 4) dX11_drawn_3 rfl ?_
  refine g_sipush (q := 7) dX11_drawn_4 (by decide +kernel) rfl ?_
  refine g_iadd (q := 8) dX11_drawn_7 rfl ?_
  refine g_ireturn dX11_drawn_8 rfl ?_
  exact ⟨_, rfl, rfl, rfl⟩
end
