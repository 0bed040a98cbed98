/-! MinuteBook: deeds -/
section
variable {sh : mbSh} {ct c : mbCt} {b : Int} {β : Bk} {s s2 : Sit} {q : Int} {N : Nat} {V : Int} {mk : Int → Int}
theorem MV.of (h : MV ct b β mk) (hL : LK c) (eb : ∀ x : Int, 2 ≤ x → x ≤ 11 → c x = ct x) (e : ∀ x : Int, 68 ≤ x → c x = ct x) : MV c b β mk := by
  have bb : b = 2 ∨ b = 7 := h.hb
  have e0 : c b = ct b := eb b (by omega) (by omega)
  have e2 : c (b + 2) = ct (b + 2) := eb _ (by omega) (by omega)
  have e3 : c (b + 3) = ct (b + 3) := eb _ (by omega) (by omega)
  have e4 : c (b + 4) = ct (b + 4) := eb _ (by omega) (by omega)
  have e70 : c 70 = ct 70 := e 70 (by decide)
  have e71 : c 71 = ct 71 := e 71 (by decide)
  have e74 : c 74 = ct 74 := e 74 (by decide)
  refine ⟨⟨hL, h.hb, by rw [e70]; exact h.h0⟩, ⟨bkWf_eq e0 e4 h.wf, by rw [e 69 (by decide)]; exact h.ask⟩, ⟨mvMin_eq e0 e4 e71 (e 72 (by decide)) h.mn, mvCl_eq e0 e4 (e 73 (by decide)) h.cl, ?_⟩, ⟨by rw [e70]; exact h.la.1, ?_⟩, by rw [e0]; exact h.rg, by rw [e71]; exact h.mr, by rw [bkOf_eq e0 e2 e3 e4]; exact h.bk, by rw [e71]; exact h.mks⟩
  · have t := h.tu
    unfold mvTurn at *
    rw [e0, e2, e3, e74]
    exact t
  · have t := h.la.2
    unfold noLast at *
    rw [e70, e0, e4]
    exact t
/-- the sitting has changed, the book and what was worked out have not -/
theorem CX.sit (X : CX sh ct b β s q N V) (hL : LK c) (h0 : c 0 2 = ct 0 2) (eb : ∀ x : Int, 2 ≤ x → x ≤ 11 → c x = ct x) (e : ∀ x : Int, 68 ≤ x → c x = ct x) (hs : sitC c 12 s2) (hB : sitB s2) (hcn : cnM β s2.2.2) : CX sh c b β s2 q N V := by
  have hq := X.qc
  obtain ⟨g0, gs, ⟨gB, gc, gbk⟩, ⟨mk, hK⟩, sq, hv, hV⟩ := X
  have e70 : c 70 = ct 70 := e 70 (by decide)
  have eq : c q = ct q := e q (by rcases hq with h | h <;> omega)
  exact ⟨by rw [h0]; exact g0, hs, ⟨hB, hcn, gbk⟩, ⟨mk, hK.1.of hL eb e, hK.2.1, hK.2.2.1.mv (e 77 (by decide)) eq (e 79 (by decide)) e70, hK.2.2.2.1.cg e70 (e 87 (by decide)) (e 88 (by decide)) (e 89 (by decide)), hK.2.2.2.2.cg (by rw [e70]) (fun x a b => e x (by omega))⟩, sq, by rw [e70]; exact hv, hV⟩
end
theorem dX11_trySaying_0 : decode cX11_trySaying 0 = .ok (.aload_n 0, 1) := by decide +kernel
theorem dX11_trySaying_1 : decode cX11_trySaying 1 = .ok (.iload_n 2, 1) := by decide +kernel
theorem dX11_trySaying_2 : decode cX11_trySaying 2 = .ok (.invokevirtual 135, 3) := by decide +kernel
theorem dX11_trySaying_5 : decode cX11_trySaying 5 = .ok (.ifCond .eq 11, 3) := by decide +kernel
theorem dX11_trySaying_8 : decode cX11_trySaying 8 = .ok (.aload_n 0, 1) := by decide +kernel
theorem dX11_trySaying_9 : decode cX11_trySaying 9 = .ok (.iload_n 3, 1) := by decide +kernel
theorem dX11_trySaying_10 : decode cX11_trySaying 10 = .ok (.invokevirtual 158, 3) := by decide +kernel
theorem dX11_trySaying_13 : decode cX11_trySaying 13 = .ok (.ifCond .ne 5, 3) := by decide +kernel
theorem dX11_trySaying_16 : decode cX11_trySaying 16 = .ok (.iconst 1, 1) := by decide +kernel
theorem dX11_trySaying_17 : decode cX11_trySaying 17 = .ok (.ireturn, 1) := by decide +kernel
theorem dX11_trySaying_18 : decode cX11_trySaying 18 = .ok (.aload_n 0, 1) := by decide +kernel
theorem dX11_trySaying_19 : decode cX11_trySaying 19 = .ok (.getfield 70, 3) := by decide +kernel
theorem dX11_trySaying_22 : decode cX11_trySaying 22 = .ok (.aload_n 0, 1) := by decide +kernel
theorem dX11_trySaying_23 : decode cX11_trySaying 23 = .ok (.getfield 20, 3) := by decide +kernel
theorem dX11_trySaying_26 : decode cX11_trySaying 26 = .ok (.aload_n 1, 1) := by decide +kernel
theorem dX11_trySaying_27 : decode cX11_trySaying 27 = .ok (.getfield 151, 3) := by decide +kernel
theorem dX11_trySaying_30 : decode cX11_trySaying 30 = .ok (.iload_n 2, 1) := by decide +kernel
theorem dX11_trySaying_31 : decode cX11_trySaying 31 = .ok (.aload_n 1, 1) := by decide +kernel
theorem dX11_trySaying_32 : decode cX11_trySaying 32 = .ok (.getfield 139, 3) := by decide +kernel
theorem dX11_trySaying_35 : decode cX11_trySaying 35 = .ok (.iload_n 2, 1) := by decide +kernel
theorem dX11_trySaying_36 : decode cX11_trySaying 36 = .ok (.iaload, 1) := by decide +kernel
theorem dX11_trySaying_37 : decode cX11_trySaying 37 = .ok (.iload_n 3, 1) := by decide +kernel
theorem dX11_trySaying_38 : decode cX11_trySaying 38 = .ok (.invokevirtual 244, 3) := by decide +kernel
theorem dX11_trySaying_41 : decode cX11_trySaying 41 = .ok (.ifCond .ne 5, 3) := by decide +kernel
theorem dX11_trySaying_44 : decode cX11_trySaying 44 = .ok (.iconst 2, 1) := by decide +kernel
theorem dX11_trySaying_45 : decode cX11_trySaying 45 = .ok (.ireturn, 1) := by decide +kernel
theorem dX11_trySaying_46 : decode cX11_trySaying 46 = .ok (.aload_n 1, 1) := by decide +kernel
theorem dX11_trySaying_47 : decode cX11_trySaying 47 = .ok (.aload_n 0, 1) := by decide +kernel
theorem dX11_trySaying_48 : decode cX11_trySaying 48 = .ok (.getfield 79, 3) := by decide +kernel
theorem dX11_trySaying_51 : decode cX11_trySaying 51 = .ok (.aload_n 1, 1) := by decide +kernel
theorem dX11_trySaying_52 : decode cX11_trySaying 52 = .ok (.getfield 151, 3) := by decide +kernel
theorem dX11_trySaying_55 : decode cX11_trySaying 55 = .ok (.iload_n 2, 1) := by decide +kernel
theorem dX11_trySaying_56 : decode cX11_trySaying 56 = .ok (.iload_n 3, 1) := by decide +kernel
theorem dX11_trySaying_57 : decode cX11_trySaying 57 = .ok (.invokevirtual 248, 3) := by decide +kernel
theorem dX11_trySaying_60 : decode cX11_trySaying 60 = .ok (.putfield 151, 3) := by decide +kernel
theorem dX11_trySaying_63 : decode cX11_trySaying 63 = .ok (.aload_n 1, 1) := by decide +kernel
theorem dX11_trySaying_64 : decode cX11_trySaying 64 = .ok (.dup, 1) := by decide +kernel
theorem dX11_trySaying_65 : decode cX11_trySaying 65 = .ok (.getfield 201, 3) := by decide +kernel
theorem dX11_trySaying_68 : decode cX11_trySaying 68 = .ok (.iconst 1, 1) := by decide +kernel
theorem dX11_trySaying_69 : decode cX11_trySaying 69 = .ok (.iadd, 1) := by decide +kernel
theorem dX11_trySaying_70 : decode cX11_trySaying 70 = .ok (.putfield 201, 3) := by decide +kernel
theorem dX11_trySaying_73 : decode cX11_trySaying 73 = .ok (.iconst 0, 1) := by decide +kernel
theorem dX11_trySaying_74 : decode cX11_trySaying 74 = .ok (.ireturn, 1) := by decide +kernel
theorem dX11_tryMarking_0 : decode cX11_tryMarking 0 = .ok (.aload_n 0, 1) := by decide +kernel
theorem dX11_tryMarking_1 : decode cX11_tryMarking 1 = .ok (.iload_n 2, 1) := by decide +kernel
theorem dX11_tryMarking_2 : decode cX11_tryMarking 2 = .ok (.invokevirtual 135, 3) := by decide +kernel
theorem dX11_tryMarking_5 : decode cX11_tryMarking 5 = .ok (.ifCond .eq 13, 3) := by decide +kernel
theorem dX11_tryMarking_8 : decode cX11_tryMarking 8 = .ok (.iload_n 3, 1) := by decide +kernel
theorem dX11_tryMarking_9 : decode cX11_tryMarking 9 = .ok (.ifCond .lt 9, 3) := by decide +kernel
theorem dX11_tryMarking_12 : decode cX11_tryMarking 12 = .ok (.iload_n 3, 1) := by decide +kernel
theorem dX11_tryMarking_13 : decode cX11_tryMarking 13 = .ok (.bipush 9, 2) := by decide +kernel
theorem dX11_tryMarking_15 : decode cX11_tryMarking 15 = .ok (.if_icmp .le 5, 3) := by decide +kernel
theorem dX11_tryMarking_18 : decode cX11_tryMarking 18 = .ok (.iconst 1, 1) := by decide +kernel
theorem dX11_tryMarking_19 : decode cX11_tryMarking 19 = .ok (.ireturn, 1) := by decide +kernel
theorem dX11_tryMarking_20 : decode cX11_tryMarking 20 = .ok (.aload_n 1, 1) := by decide +kernel
theorem dX11_tryMarking_21 : decode cX11_tryMarking 21 = .ok (.getfield 139, 3) := by decide +kernel
theorem dX11_tryMarking_24 : decode cX11_tryMarking 24 = .ok (.iload_n 2, 1) := by decide +kernel
theorem dX11_tryMarking_25 : decode cX11_tryMarking 25 = .ok (.iload_n 3, 1) := by decide +kernel
theorem dX11_tryMarking_26 : decode cX11_tryMarking 26 = .ok (.iastore, 1) := by decide +kernel
theorem dX11_tryMarking_27 : decode cX11_tryMarking 27 = .ok (.iconst 0, 1) := by decide +kernel
theorem dX11_tryMarking_28 : decode cX11_tryMarking 28 = .ok (.ireturn, 1) := by decide +kernel
theorem sitAt_n {sh : mbSh} {ct : mbCt} (S : SH sh) (L : LK ct) {a : Int} (ha : a = 12 ∨ a = 14) : sitAt sh ct a := by
  rcases ha with rfl | rfl
  · exact ⟨S.at _ rfl, S.at _ rfl, L.at _ _ rfl⟩
  · exact ⟨S.at _ rfl, S.at _ rfl, L.at _ _ rfl⟩
/-- nothing but a sitting and Moves' own rows has changed -/
abbrev dE (a : Int) (ct c : mbCt) : Prop := eqBut [a, a + 1, 68, 69, 72, 73, 75, 76] ct c ∧ c a 2 = ct a 2
section
variable (d : Nat) (sh : mbSh) (ct : mbCt) {b : Int} {β : Bk} {s z : Sit} {q : Int} {N : Nat} {V : Int} {a : Int}
/-- CX, whatever the sitting: only the sitting a has been written -/
theorem CX.wrs {c : mbCt} {k v : Int} (X : CX sh ct b β s q N V) (h14 : c = wr ct 14 k v) (hk : k ≠ 2) : CX sh c b β s q N V := by
  have L := X.L
  subst h14
  refine X.sit (L.wr (by
    unfold lkF
    split
    · rename_i h
      have : k = 0 ∨ k = 1 ∨ 3 ≤ k := by omega
      rcases this with rfl | rfl | h3
      · rfl
      · rfl
      · show (([none, none, some 15] : List (Option Int))[k.toNat]?).getD none = none
        rw [List.getElem?_eq_none (by show 3 ≤ k.toNat; omega)]
        rfl
    · rfl)) (by rw [wr_na (by decide)]) (fun x h1 h2 => wr_other _ _ _ _ _ (by omega)) (fun x h1 => wr_other _ _ _ _ _ (by omega)) ?_ X.2.2.1.1 X.2.2.1.2.1
  exact X.2.1.cg (wr_other _ _ _ _ _ (by decide)) (wr_other _ _ _ _ _ (by decide))
end
