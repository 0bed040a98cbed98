/-! the invariant holds where both were made -/
def tb1 : List (Option (List Int)) := [some [1, 0, 2, 7, 12, 14, 16, 38, 47, 64, 67, 70, 77, 80, 87], none, some [0, 0, 0, 0, 0, 0, 0, 0, 0, 0, 0, 3, 4, 5, 6], none, none, none, none, some [0, 0, 0, 0, 0, 0, 0, 0, 0, 0, 0, 8, 9, 10, 11], none, none, none, none, some [6, 0, 13], none, some [6, 0, 15], none, some [17, 0, 0], some [18, 20, 22, 24, 26, 28, 30, 32, 34, 36], some [6, 0, 19], none, some [6, 0, 21], none, some [6, 0, 23], none, some [6, 0, 25], none, some [6, 0, 27], none, some [6, 0, 29], none, some [6, 0, 31], none, some [6, 0, 33], none, some [6, 0, 35], none, some [6, 0, 37], none, some [39, 41, 43, 45], some [40, -1, 0], none, some [42, -1, 0], none, some [44, -1, 0], none, some [46, -1, 0], none, some [48, 56], some [0, 49, 54], some [0, 0, 0, 0, 0, 0, 0, 0, 0, 0, 0, 50, 51, 52, 53], none, none, none, none, some [6, 0, 55], none, some [0, 57, 62], some [0, 0, 0, 0, 0, 0, 0, 0, 0, 0, 0, 58, 59, 60, 61], none, none, none, none, some [6, 0, 63], none, some [0, -1, 1, 65, 66, 0, 0, 0, 0, 7], none, none, some [68, 69], none, none, some [2, 67, 71, 72, 73, 74, 0, 0, 75, 76], none, none, none, none, none, none, some [70, 78, 0, 79, -1, -1, -1, 0, 0, 0, 0, 0], none, none, some [70, 81, 0, 82, 83, 84, 85, 86, 0, -1, 0, 0], none, none, none, none, none, none, some [70, 77, 88, 89, 90, 91, -1, 0, 0], none, none, none, none]
def tb2 : List (Option (List Int)) := [some [0, 93, 94, 95, 96, 0, 0, 0, 0, 0, 0, 0, 0, 0, -1, 0, 97, 98, 99, 0, 0, 100, 101, 102, 103, 104, 105, 106, 107, 108, 109, 110, 111, 112, 113], some [], none, none, none, none, none, none, none, none, none, none, none, none, none, none, none, none, none, some [-1, -1, -1, -1], none, none]
def lkN (a k : Nat) : Option Int := ((lkT[a]?).getD [])[k]?.getD none
def ent (a k : Nat) : Option Int := match (tb1 ++ tb2)[a]? with
  | some (some l) => l[k]?
  | _ => none
theorem lk_chk : ∀ a : Fin 114, ∀ k : Fin 36, lkN a.val k.val = none ∨ ent a.val k.val = lkN a.val k.val := by decide +kernel
theorem lk_len : lkT.length = 114 ∧ ∀ r ∈ lkT, r.length ≤ 35 := by decide +kernel
theorem ssz_b : ssz SHL ≤ 400000 := by decide +kernel
theorem INV.begin {c : mbCt} (B1 : blk c 0 tb1) (B2 : blk c 92 tb2) (h93 : ∀ j, c 93 j = if j = 30 then 6 else 0) : INV SHL c 0 := by
  have B : ∀ (i : Nat) (x : Option (List Int)), (tb1 ++ tb2)[i]? = some x → cellIs (c ((i : Nat) : Int)) x := by
    intro i x hx
    by_cases hi : i < 92
    · rw [List.getElem?_append_left (show i < tb1.length from hi)] at hx
      have := B1 i x hx
      rw [Nat.zero_add] at this
      exact this
    · rw [List.getElem?_append_right (show tb1.length ≤ i from Nat.le_of_not_lt hi)] at hx
      have := B2 (i - 92) x hx
      rw [show 92 + (i - 92) = i by omega] at this
      exact this
  have Z : ∀ (i : Nat), (tb1 ++ tb2)[i]? = some none → ∀ j, c ((i : Nat) : Int) j = 0 := fun i h => B i none h
  have V : ∀ (i k : Nat) (l : List Int) (v : Int), (tb1 ++ tb2)[i]? = some (some l) → l[k]? = some v → c ((i : Nat) : Int) ((k : Nat) : Int) = v := fun i k l v h h2 => B i (some l) h k v h2
  have L : LK c := by
    intro a k v hv
    unfold lkF at hv
    split at hv
    · rename_i h0
      have ha : a.toNat < 114 := by
        apply Classical.byContradiction
        intro z
        rw [show lkT[a.toNat]? = none from List.getElem?_eq_none (by have := lk_len.1; omega)] at hv
        cases hv
      have hk : k.toNat < 36 := by
        apply Classical.byContradiction
        intro z
        have hr : (((lkT[a.toNat]?).getD []).length) ≤ 35 := by
          rw [List.getElem?_eq_getElem (by have := lk_len.1; omega)]
          exact lk_len.2 _ (List.getElem_mem _)
        rw [List.getElem?_eq_none (by omega)] at hv
        cases hv
      have hc := lk_chk ⟨a.toNat, ha⟩ ⟨k.toNat, hk⟩
      have hl : lkN a.toNat k.toNat = some v := hv
      dsimp only at hc
      rw [hl] at hc
      have he : ent a.toNat k.toNat = some v := by
        rcases hc with h | h
        · cases h
        · exact h
      unfold ent at he
      split at he
      · rename_i l hx
        have := V a.toNat k.toNat l v hx he
        rw [show ((a.toNat : Nat) : Int) = a by omega, show ((k.toNat : Nat) : Int) = k by omega] at this
        exact this
      · cases he
    · cases hv
  have z2 : ∀ k : Nat, k < 11 → c 2 ((k : Nat) : Int) = 0 := by
    intro k hk
    have h : ∀ j : Fin 11, ([0, 0, 0, 0, 0, 0, 0, 0, 0, 0, 0, 3, 4, 5, 6] : List Int)[j.val]? = some 0 := by decide
    exact V 2 k _ 0 rfl (h ⟨k, hk⟩)
  have c20 : c 2 0 = 0 := z2 0 (by decide)
  have c21 : c 2 1 = 0 := z2 1 (by decide)
  have c22 : c 2 2 = 0 := z2 2 (by decide)
  have c23 : c 2 3 = 0 := z2 3 (by decide)
  have c24 : c 2 4 = 0 := z2 4 (by decide)
  have c25 : c 2 5 = 0 := z2 5 (by decide)
  have c26 : c 2 6 = 0 := z2 6 (by decide)
  have c27 : c 2 7 = 0 := z2 7 (by decide)
  have c28 : c 2 8 = 0 := z2 8 (by decide)
  have c29 : c 2 9 = 0 := z2 9 (by decide)
  have c210 : c 2 10 = 0 := z2 10 (by decide)
  have r1 : ∀ j, c 1 j = 0 := Z 1 rfl
  have r4 : ∀ j, c 4 j = 0 := Z 4 rfl
  have r5 : ∀ j, c 5 j = 0 := Z 5 rfl
  have r6 : ∀ j, c 6 j = 0 := Z 6 rfl
  have r11 : ∀ j, c 11 j = 0 := Z 11 rfl
  have r13 : ∀ j, c 13 j = 0 := Z 13 rfl
  have r53 : ∀ j, c 53 j = 0 := Z 53 rfl
  have r61 : ∀ j, c 61 j = 0 := Z 61 rfl
  have r69 : ∀ j, c 69 j = 0 := Z 69 rfl
  have r71 : ∀ j, c 71 j = 0 := Z 71 rfl
  have r72 : ∀ j, c 72 j = 0 := Z 72 rfl
  have r73 : ∀ j, c 73 j = 0 := Z 73 rfl
  have r79 : ∀ j, c 79 j = 0 := Z 79 rfl
  have r81 : ∀ j, c 81 j = 0 := Z 81 rfl
  have r85 : ∀ j, c 85 j = 0 := Z 85 rfl
  have r86 : ∀ j, c 86 j = 0 := Z 86 rfl
  have r88 : ∀ j, c 88 j = 0 := Z 88 rfl
  have r89 : ∀ j, c 89 j = 0 := Z 89 rfl
  have r94 : ∀ j, c 94 j = 0 := Z 94 rfl
  have c77 : (c 77 1 = 78 ∧ c 77 6 = -1 ∧ c 77 7 = 0) ∧ c 77 8 = 0 ∧ c 77 10 = 0 ∧ c 77 11 = 0 := ⟨⟨V 77 1 _ _ rfl rfl, V 77 6 _ _ rfl rfl, V 77 7 _ _ rfl rfl⟩, V 77 8 _ _ rfl rfl, V 77 10 _ _ rfl rfl, V 77 11 _ _ rfl rfl⟩
  have c70 : c 70 0 = 2 ∧ c 70 6 = 0 ∧ c 70 7 = 0 := ⟨V 70 0 _ _ rfl rfl, V 70 6 _ _ rfl rfl, V 70 7 _ _ rfl rfl⟩
  have c80 : (c 80 2 = 0 ∧ c 80 6 = 85 ∧ c 80 7 = 86 ∧ c 80 8 = 0) ∧ c 80 9 = -1 ∧ c 80 10 = 0 ∧ c 80 11 = 0 := ⟨⟨V 80 2 _ _ rfl rfl, V 80 6 _ _ rfl rfl, V 80 7 _ _ rfl rfl, V 80 8 _ _ rfl rfl⟩, V 80 9 _ _ rfl rfl, V 80 10 _ _ rfl rfl, V 80 11 _ _ rfl rfl⟩
  have c87 : c 87 6 = -1 ∧ c 87 7 = 0 ∧ c 87 8 = 0 := ⟨V 87 6 _ _ rfl rfl, V 87 7 _ _ rfl rfl, V 87 8 _ _ rfl rfl⟩
  have c12 : c 12 0 = 6 ∧ c 12 1 = 0 := ⟨V 12 0 _ _ rfl rfl, V 12 1 _ _ rfl rfl⟩
  have c16 : c 16 1 = 0 ∧ c 16 2 = 0 := ⟨V 16 1 _ _ rfl rfl, V 16 2 _ _ rfl rfl⟩
  have c0 : c 0 1 = 0 ∧ c 0 2 = 2 ∧ c 0 3 = 7 := ⟨V 0 1 _ _ rfl rfl, V 0 2 _ _ rfl rfl, V 0 3 _ _ rfl rfl⟩
  have c64 : c 64 0 = 0 ∧ c 64 1 = -1 := ⟨V 64 0 _ _ rfl rfl, V 64 1 _ _ rfl rfl⟩
  have c92 : c 92 5 = 0 ∧ c 92 13 = 0 ∧ c 92 14 = -1 := ⟨V 92 5 _ _ rfl rfl, V 92 13 _ _ rfl rfl, V 92 14 _ _ rfl rfl⟩
  have ctr : c 39 1 = -1 ∧ c 41 1 = -1 ∧ c 43 1 = -1 ∧ c 45 1 = -1 := ⟨V 39 1 _ _ rfl rfl, V 41 1 _ _ rfl rfl, V 43 1 _ _ rfl rfl, V 45 1 _ _ rfl rfl⟩
  have cim : c 48 0 = 0 ∧ c 56 0 = 0 := ⟨V 48 0 _ _ rfl rfl, V 56 0 _ _ rfl rfl⟩
  have c111 : c 111 0 = -1 ∧ c 111 1 = -1 ∧ c 111 2 = -1 ∧ c 111 3 = -1 := ⟨V 111 0 _ _ rfl rfl, V 111 1 _ _ rfl rfl, V 111 2 _ _ rfl rfl, V 111 3 _ _ rfl rfl⟩
  have n93 : ∀ j, j ≠ 30 → c 93 j = 0 := fun j hj => by rw [h93, if_neg hj]
  have hW : (bkOf c 2).W = wouldL [] := by
    funext st w m y
    show wouldB c 2 st w m y = wouldL [] st w m y
    unfold wouldB wouldL
    exact decide_eq_decide.mpr ⟨fun _ => Or.inl rfl, fun _ => Or.inl (by rw [c27, c28])⟩
  have hC : (bkOf c 2).cl = closesL [] := by
    funext st
    show closesB c 2 st = closesL [] st
    unfold closesB closesL
    rw [if_pos (by rw [c29, c210]), if_pos rfl]
  have hB : bkB (bkOf c 2) := by
    refine ⟨?_, ?_, ?_, ?_, ?_, ?_, fun s _ _ => ?_⟩
    · show 0 ≤ c 2 0 ∧ c 2 0 ≤ 9; omega
    · show 0 ≤ c 2 1 ∧ c 2 1 ≤ 9; omega
    · show 0 ≤ c 2 2 ∧ c 2 2 ≤ 6; omega
    · show 0 ≤ c 2 3 ∧ c 2 3 ≤ 8; omega
    · show 0 ≤ c 2 4 ∧ c 2 4 ≤ 10; omega
    · show 0 ≤ c 2 5 ∧ c 2 5 ≤ 1000; omega
    · show (-9 ≤ c 4 s ∧ c 4 s ≤ 9) ∧ -9 ≤ c 5 s ∧ c 5 s ≤ 9
      rw [r4, r5]
      decide
  have hsB : sitB (6, 0, fun _ => 0) := ⟨⟨by show (0 : Int) ≤ 6; decide, by show (6 : Int) < 700; decide⟩, fun m _ _ => ⟨by show (0 : Int) ≤ 0; decide, by show (0 : Int) ≤ 9; decide⟩⟩
  have hmv : MV c 2 (bkOf c 2) (fun _ => 0) := by
    refine ⟨⟨L, Or.inl rfl, c70.1⟩, ⟨⟨⟨by omega, by omega, by omega, fun z => absurd (c27.trans c28.symm) z⟩, by omega, by omega, by omega, fun z => absurd (c29.trans c210.symm) z⟩, fun j _ _ => by rw [r69]; decide⟩, ⟨fun k _ _ => Or.inl (r72 k), fun k _ _ => Or.inl (r73 k), fun s o s0 s1 _ _ => by omega⟩, ⟨Or.inl c70.2.1, fun _ op hop => ?_⟩, by omega, fun m _ _ => by rw [r71]; decide, rfl, fun m _ _ => r71 m⟩
    rw [c27, c28] at hop
    cases hop
  have hrc : rclr c := by
    intro st sp s0 s1 hsp
    exact rbit_0 (r79 st) sp
  have hwi : WI c 78 700 (bkOf c 2) (fun _ => 0) := ⟨⟨c77.1.1, Or.inl rfl, by decide, hrc, by omega, by omega, by omega, by omega, by omega, 0, by decide, by rw [c77.2.2.2]; rfl, by decide⟩, fun z => by omega⟩
  have hgi : GI c (bkOf c 2) (fun _ => 0) := by
    refine ⟨fun f x _ _ => ?_, by omega, by omega, by omega, fun z => by omega⟩
    cases f
    · show -1 ≤ c 89 x ∧ c 89 x ≤ 1400
      rw [r89]
      decide
    · show -1 ≤ c 88 x ∧ c 88 x ≤ 1400
      rw [r88]
      decide
  have hly : LYI c (bkOf c 2) (fun _ => 0) := ⟨⟨Or.inl ⟨c80.1.2.1, c80.1.2.2.1⟩, fun st _ _ => ⟨r85 st, r86 st⟩⟩, ⟨0, c80.1.1, by decide, fun z => by omega⟩, fun j _ _ => by rw [r81]; decide, Or.inl c80.1.2.2.2, by omega, by omega, by omega⟩
  have hcx : CX SHL c 2 (bkOf c 2) (6, 0, fun _ => 0) 78 700 0 := ⟨c0.2.1, ⟨c12.1, c12.2, fun m _ _ => r13 m⟩, ⟨hsB, fun m _ => rfl, hB⟩, ⟨fun _ => 0, hmv, fun m _ => rfl, hwi, hgi, hly⟩, rfl, by omega, by decide⟩
  refine ⟨2, 7, bkOf c 2, (6, 0, fun _ => 0), 0, fun _ => (6, 0, fun _ => 0), 78, 700, fun _ => 0, fun _ => bkOf c 2, fun _ => (6, 0, fun _ => 0), fun _ => -1, fun _ => 8, fun _ _ => 0, 0, ⟨⟨hcx, by omega, c16.2, by decide, fun k k0 k1 => by omega⟩, fun t t0 t1 => ?_, fun j j0 j1 => ?_, ⟨c0.1, by decide, fun j _ _ => by rw [r1]; decide⟩, ⟨Or.inl ⟨rfl, rfl⟩, c0.2.2⟩, fun j _ _ => ?_, fun j _ _ => ?_, by unfold bkZ; omega⟩, ⟨⟨⟨L, ⟨⟨?_, ?_, ?_, ?_, ?_, ?_⟩, fun s s0 s1 => ?_, hB, [], [], ?_, ?_, fun op h => (by cases h), hW, hC⟩, ?_, hsB⟩, n93 38 (by decide), by decide, fun k k0 k1 => by omega⟩, fun t t0 t1 => ?_, fun j j0 j1 => Or.inl ⟨rfl, r94 j⟩, c92.1⟩, ⟨fun j j0 j1 => by omega, by rw [c92.2.1, c64.1], by rw [c92.2.2, c64.2]⟩, fun k _ => rfl, by decide, by decide, by have := ssz_b; omega, 0, by decide⟩
  · have ht : t = 0 ∨ t = 1 ∨ t = 2 ∨ t = 3 := by omega
    rcases ht with rfl | rfl | rfl | rfl
    · exact ⟨ctr.1, Or.inl rfl⟩
    · exact ⟨ctr.2.1, Or.inl rfl⟩
    · exact ⟨ctr.2.2.1, Or.inl rfl⟩
    · exact ⟨ctr.2.2.2, Or.inl rfl⟩
  · have ht : j = 0 ∨ j = 1 := by omega
    rcases ht with rfl | rfl
    · exact ⟨fun k _ _ => by show -32768 ≤ c 53 k ∧ c 53 k < 32768; rw [r53]; decide, Or.inl ⟨rfl, cim.1⟩⟩
    · exact ⟨fun k _ _ => by show -32768 ≤ c 61 k ∧ c 61 k < 32768; rw [r61]; decide, Or.inl ⟨rfl, cim.2⟩⟩
  · show -32768 ≤ c 6 j ∧ c 6 j < 32768; rw [r6]; decide
  · show -32768 ≤ c 11 j ∧ c 11 j < 32768; rw [r11]; decide
  · show c 93 0 = c 2 5; rw [n93 0 (by decide), c25]
  · show c 93 (0 + 1) = c 2 2; rw [n93 _ (by decide), c22]
  · show c 93 (0 + 2) = c 2 3; rw [n93 _ (by decide), c23]
  · show c 93 (0 + 3) = c 2 0; rw [n93 _ (by decide), c20]
  · show c 93 (0 + 4) = c 2 1; rw [n93 _ (by decide), c21]
  · show c 93 (0 + 5) = c 2 4; rw [n93 _ (by decide), c24]
  · show c 93 (0 + 12 + s) = c 4 s ∧ c 93 (0 + 20 + s) = c 5 s
    rw [n93 _ (by omega), n93 _ (by omega), r4, r5]
    exact ⟨rfl, rfl⟩
  · exact ⟨by rw [n93 _ (by decide)]; exact b01_f (fun z => z rfl), by rw [n93 _ (by decide)]; rfl, by rw [n93 _ (by decide)]; decide, by rw [n93 _ (by decide)]; decide, fun k op h => (by cases h), Or.inl rfl⟩
  · exact ⟨by rw [n93 _ (by decide)]; exact b01_f (fun z => z rfl), by rw [n93 _ (by decide)]; rfl, by rw [n93 _ (by decide)]; decide, by rw [n93 _ (by decide)]; decide, fun k op h => (by cases h), Or.inl rfl⟩
  · exact ⟨by rw [n93 _ (by decide)]; rfl, by rw [n93 _ (by decide)]; rfl, by rw [h93, if_pos (by decide)]; rfl, n93 _ (by decide), fun m _ _ => n93 _ (by omega)⟩
  · have ht : t = 0 ∨ t = 1 ∨ t = 2 ∨ t = 3 := by omega
    rcases ht with rfl | rfl | rfl | rfl
    · exact Or.inl ⟨rfl, c111.1⟩
    · exact Or.inl ⟨rfl, c111.2.1⟩
    · exact Or.inl ⟨rfl, c111.2.2.1⟩
    · exact Or.inl ⟨rfl, c111.2.2.2⟩
