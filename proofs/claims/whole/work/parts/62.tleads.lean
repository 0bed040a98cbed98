/-! loops; what the reference lays out: where each minute leads, where it closes -/
theorem lsSub_rf : ∀ l : List (Option gV), lsSub l l
  | [] => trivial
  | none :: r => lsSub_rf r
  | some _ :: r => ⟨rfl, lsSub_rf r⟩
/-- a loop that counts up to n: I holds at its head -/
theorem g_for {K : mbK} {pc : Nat} {sh : mbSh} (ls : Int → List (Option gV)) (I : Int → mbCt → Prop) (n : Int) (step : ∀ i c, i < n → I i c → (∀ ls' c', lsSub (ls (i + 1)) ls' → I (i + 1) c' → G K pc ls' [] sh c') → G K pc (ls i) [] sh c) (ex : ∀ c, I n c → G K pc (ls n) [] sh c) {i : Int} {c : mbCt} {ls' : List (Option gV)} (hi : i ≤ n) (h : I i c) (hl : lsSub (ls i) ls') : G K pc ls' [] sh c := by
  have main : ∀ (k : Nat) (i : Int) (c : mbCt) (ls' : List (Option gV)), i + k = n → I i c → lsSub (ls i) ls' → G K pc ls' [] sh c := by
    intro k
    induction k with
    | zero =>
      intro i c ls' h1 h2 h3
      have : i = n := by omega
      subst this
      exact g_fg h3 (ex c h2)
    | succ k ih =>
      intro i c ls' h1 h2 h3
      exact g_fg h3 (step i c (by omega) h2 (fun ls2 c2 h4 h5 => ih (i + 1) c2 ls2 (by omega) h5 h4))
  exact main (n - i).toNat i c ls' (by omega) h hl
/-- the same, with something that is carried along -/
theorem g_forA {α : Type} {K : mbK} {pc : Nat} {sh : mbSh} (ls : Int → α → List (Option gV)) (I : Int → α → mbCt → Prop) (n : Int) (step : ∀ i a c, i < n → I i a c → (∀ a' ls' c', lsSub (ls (i + 1) a') ls' → I (i + 1) a' c' → G K pc ls' [] sh c') → G K pc (ls i a) [] sh c) (ex : ∀ a c, I n a c → G K pc (ls n a) [] sh c) {i : Int} {a : α} {c : mbCt} {ls' : List (Option gV)} (hi : i ≤ n) (h : I i a c) (hl : lsSub (ls i a) ls') : G K pc ls' [] sh c := by
  have main : ∀ (k : Nat) (i : Int) (a : α) (c : mbCt) (ls' : List (Option gV)), i + k = n → I i a c → lsSub (ls i a) ls' → G K pc ls' [] sh c := by
    intro k
    induction k with
    | zero =>
      intro i a c ls' h1 h2 h3
      have : i = n := by omega
      subst this
      exact g_fg h3 (ex a c h2)
    | succ k ih =>
      intro i a c ls' h1 h2 h3
      exact g_fg h3 (step i a c (by omega) h2 (fun a2 ls2 c2 h4 h5 => ih (i + 1) a2 c2 ls2 (by omega) h5 h4))
  exact main (n - i).toNat i a c ls' (by omega) h hl
abbrev ldP (β : Bk) (mk : Int → Int) (qu un mo x v : Int) : Prop := (v / 10 < β.n 2 ∧ v % 10 < β.n 3 ∧ v / 10 ≠ qu ∧ v % 10 ≠ un ∧ β.W x (v / 10) (mk (v / 10)) (v % 10) = true) ∧ nxB β x (v / 10) (v % 10) / 7 % 10 ≤ mo
def ldV (β : Bk) (mk : Int → Int) (qu un mo x v : Int) : Int := if ldP β mk qu un mo x v then nxB β x (v / 10) (v % 10) else -1
def LD (c : mbCt) (β : Bk) (mk : Int → Int) (qu un mo : Int) : Prop := (∀ j, 0 ≤ j → j < 70000 → c 100 j = ldV β mk qu un mo (j / 100) (j % 100)) ∧ ∀ x, 0 ≤ x → x < 700 → c 103 x = b01 (β.cl x = true)
theorem dX12_laysLeads_0 : decode cX12_laysLeads 0 = .ok (.iconst 0, 1) := by decide +kernel
theorem dX12_laysLeads_1 : decode cX12_laysLeads 1 = .ok (.istore 4, 2) := by decide +kernel
theorem dX12_laysLeads_3 : decode cX12_laysLeads 3 = .ok (.iload 4, 2) := by decide +kernel
theorem dX12_laysLeads_5 : decode cX12_laysLeads 5 = .ok (.sipush 700, 3) := by decide +kernel
theorem dX12_laysLeads_8 : decode cX12_laysLeads 8 = .ok (.if_icmp .ge 158, 3) := by decide +kernel
theorem dX12_laysLeads_11 : decode cX12_laysLeads 11 = .ok (.aload_n 0, 1) := by decide +kernel
theorem dX12_laysLeads_12 : decode cX12_laysLeads 12 = .ok (.getfield 50, 3) := by decide +kernel
theorem dX12_laysLeads_15 : decode cX12_laysLeads 15 = .ok (.iload 4, 2) := by decide +kernel
theorem dX12_laysLeads_17 : decode cX12_laysLeads 17 = .ok (.aload_n 0, 1) := by decide +kernel
theorem dX12_laysLeads_18 : decode cX12_laysLeads 18 = .ok (.iload 4, 2) := by decide +kernel
theorem dX12_laysLeads_20 : decode cX12_laysLeads 20 = .ok (.invokevirtual 265, 3) := by decide +kernel
theorem dX12_laysLeads_23 : decode cX12_laysLeads 23 = .ok (.bastore, 1) := by decide +kernel
theorem dX12_laysLeads_24 : decode cX12_laysLeads 24 = .ok (.iconst 0, 1) := by decide +kernel
theorem dX12_laysLeads_25 : decode cX12_laysLeads 25 = .ok (.istore 5, 2) := by decide +kernel
theorem dX12_laysLeads_27 : decode cX12_laysLeads 27 = .ok (.iload 5, 2) := by decide +kernel
theorem dX12_laysLeads_29 : decode cX12_laysLeads 29 = .ok (.bipush 100, 2) := by decide +kernel
theorem dX12_laysLeads_31 : decode cX12_laysLeads 31 = .ok (.if_icmp .ge 129, 3) := by decide +kernel
theorem dX12_laysLeads_34 : decode cX12_laysLeads 34 = .ok (.iload 5, 2) := by decide +kernel
theorem dX12_laysLeads_36 : decode cX12_laysLeads 36 = .ok (.bipush 10, 2) := by decide +kernel
theorem dX12_laysLeads_38 : decode cX12_laysLeads 38 = .ok (.idiv, 1) := by decide +kernel
theorem dX12_laysLeads_39 : decode cX12_laysLeads 39 = .ok (.istore 6, 2) := by decide +kernel
theorem dX12_laysLeads_41 : decode cX12_laysLeads 41 = .ok (.iload 5, 2) := by decide +kernel
theorem dX12_laysLeads_43 : decode cX12_laysLeads 43 = .ok (.bipush 10, 2) := by decide +kernel
theorem dX12_laysLeads_45 : decode cX12_laysLeads 45 = .ok (.irem, 1) := by decide +kernel
theorem dX12_laysLeads_46 : decode cX12_laysLeads 46 = .ok (.istore 7, 2) := by decide +kernel
theorem dX12_laysLeads_48 : decode cX12_laysLeads 48 = .ok (.aload_n 0, 1) := by decide +kernel
theorem dX12_laysLeads_49 : decode cX12_laysLeads 49 = .ok (.iload 6, 2) := by decide +kernel
theorem dX12_laysLeads_51 : decode cX12_laysLeads 51 = .ok (.i2l, 1) := by decide +kernel
theorem dX12_laysLeads_52 : decode cX12_laysLeads 52 = .ok (.invokevirtual 220, 3) := by decide +kernel
theorem dX12_laysLeads_55 : decode cX12_laysLeads 55 = .ok (.ifCond .eq 42, 3) := by decide +kernel
theorem dX12_laysLeads_58 : decode cX12_laysLeads 58 = .ok (.aload_n 0, 1) := by decide +kernel
theorem dX12_laysLeads_59 : decode cX12_laysLeads 59 = .ok (.iload 7, 2) := by decide +kernel
theorem dX12_laysLeads_61 : decode cX12_laysLeads 61 = .ok (.i2l, 1) := by decide +kernel
theorem dX12_laysLeads_62 : decode cX12_laysLeads 62 = .ok (.invokevirtual 224, 3) := by decide +kernel
theorem dX12_laysLeads_65 : decode cX12_laysLeads 65 = .ok (.ifCond .eq 32, 3) := by decide +kernel
theorem dX12_laysLeads_68 : decode cX12_laysLeads 68 = .ok (.iload 6, 2) := by decide +kernel
theorem dX12_laysLeads_70 : decode cX12_laysLeads 70 = .ok (.iload_n 1, 1) := by decide +kernel
theorem dX12_laysLeads_71 : decode cX12_laysLeads 71 = .ok (.if_icmp .eq 26, 3) := by decide +kernel
theorem dX12_laysLeads_74 : decode cX12_laysLeads 74 = .ok (.iload 7, 2) := by decide +kernel
theorem dX12_laysLeads_76 : decode cX12_laysLeads 76 = .ok (.iload_n 2, 1) := by decide +kernel
theorem dX12_laysLeads_77 : decode cX12_laysLeads 77 = .ok (.if_icmp .eq 20, 3) := by decide +kernel
theorem dX12_laysLeads_80 : decode cX12_laysLeads 80 = .ok (.aload_n 0, 1) := by decide +kernel
theorem dX12_laysLeads_81 : decode cX12_laysLeads 81 = .ok (.iload 4, 2) := by decide +kernel
theorem dX12_laysLeads_83 : decode cX12_laysLeads 83 = .ok (.iload 6, 2) := by decide +kernel
theorem dX12_laysLeads_85 : decode cX12_laysLeads 85 = .ok (.iload 7, 2) := by decide +kernel
theorem dX12_laysLeads_87 : decode cX12_laysLeads 87 = .ok (.invokevirtual 254, 3) := by decide +kernel
theorem dX12_laysLeads_90 : decode cX12_laysLeads 90 = .ok (.ifCond .eq 7, 3) := by decide +kernel
theorem dX12_laysLeads_93 : decode cX12_laysLeads 93 = .ok (.iconst 1, 1) := by decide +kernel
theorem dX12_laysLeads_94 : decode cX12_laysLeads 94 = .ok (.goto 4, 3) := by decide +kernel
theorem dX12_laysLeads_97 : decode cX12_laysLeads 97 = .ok (.iconst 0, 1) := by decide +kernel
theorem dX12_laysLeads_98 : decode cX12_laysLeads 98 = .ok (.istore 8, 2) := by decide +kernel
theorem dX12_laysLeads_100 : decode cX12_laysLeads 100 = .ok (.iload 8, 2) := by decide +kernel
theorem dX12_laysLeads_102 : decode cX12_laysLeads 102 = .ok (.ifCond .eq 16, 3) := by decide +kernel
theorem dX12_laysLeads_105 : decode cX12_laysLeads 105 = .ok (.aload_n 0, 1) := by decide +kernel
theorem dX12_laysLeads_106 : decode cX12_laysLeads 106 = .ok (.iload 4, 2) := by decide +kernel
theorem dX12_laysLeads_108 : decode cX12_laysLeads 108 = .ok (.iload 6, 2) := by decide +kernel
theorem dX12_laysLeads_110 : decode cX12_laysLeads 110 = .ok (.iload 7, 2) := by decide +kernel
theorem dX12_laysLeads_112 : decode cX12_laysLeads 112 = .ok (.invokevirtual 271, 3) := by decide +kernel
theorem dX12_laysLeads_115 : decode cX12_laysLeads 115 = .ok (.goto 4, 3) := by decide +kernel
theorem dX12_laysLeads_118 : decode cX12_laysLeads 118 = .ok (.iconst (-1), 1) := by decide +kernel
theorem dX12_laysLeads_119 : decode cX12_laysLeads 119 = .ok (.istore 9, 2) := by decide +kernel
theorem dX12_laysLeads_121 : decode cX12_laysLeads 121 = .ok (.aload_n 0, 1) := by decide +kernel
theorem dX12_laysLeads_122 : decode cX12_laysLeads 122 = .ok (.getfield 40, 3) := by decide +kernel
theorem dX12_laysLeads_125 : decode cX12_laysLeads 125 = .ok (.bipush 100, 2) := by decide +kernel
theorem dX12_laysLeads_127 : decode cX12_laysLeads 127 = .ok (.iload 4, 2) := by decide +kernel
theorem dX12_laysLeads_129 : decode cX12_laysLeads 129 = .ok (.imul, 1) := by decide +kernel
theorem dX12_laysLeads_130 : decode cX12_laysLeads 130 = .ok (.iload 5, 2) := by decide +kernel
theorem dX12_laysLeads_132 : decode cX12_laysLeads 132 = .ok (.iadd, 1) := by decide +kernel
theorem dX12_laysLeads_133 : decode cX12_laysLeads 133 = .ok (.iload 8, 2) := by decide +kernel
theorem dX12_laysLeads_135 : decode cX12_laysLeads 135 = .ok (.ifCond .eq 17, 3) := by decide +kernel
theorem dX12_laysLeads_138 : decode cX12_laysLeads 138 = .ok (.iload 9, 2) := by decide +kernel
theorem dX12_laysLeads_140 : decode cX12_laysLeads 140 = .ok (.invokestatic 234, 3) := by decide +kernel
theorem dX12_laysLeads_143 : decode cX12_laysLeads 143 = .ok (.iload_n 3, 1) := by decide +kernel
theorem dX12_laysLeads_144 : decode cX12_laysLeads 144 = .ok (.if_icmp .gt 8, 3) := by decide +kernel
theorem dX12_laysLeads_147 : decode cX12_laysLeads 147 = .ok (.iload 9, 2) := by decide +kernel
theorem dX12_laysLeads_149 : decode cX12_laysLeads 149 = .ok (.goto 4, 3) := by decide +kernel
theorem dX12_laysLeads_152 : decode cX12_laysLeads 152 = .ok (.iconst (-1), 1) := by decide +kernel
theorem dX12_laysLeads_153 : decode cX12_laysLeads 153 = .ok (.iastore, 1) := by decide +kernel
theorem dX12_laysLeads_154 : decode cX12_laysLeads 154 = .ok (.iinc 5 1, 3) := by decide +kernel
theorem dX12_laysLeads_157 : decode cX12_laysLeads 157 = .ok (.goto (-130), 3) := by decide +kernel
theorem dX12_laysLeads_160 : decode cX12_laysLeads 160 = .ok (.iinc 4 1, 3) := by decide +kernel
theorem dX12_laysLeads_163 : decode cX12_laysLeads 163 = .ok (.goto (-160), 3) := by decide +kernel
theorem dX12_laysLeads_166 : decode cX12_laysLeads 166 = .ok (.return_, 1) := by decide +kernel
theorem dX12_laysPlain_0 : decode cX12_laysPlain 0 = .ok (.aload_n 0, 1) := by decide +kernel
theorem dX12_laysPlain_1 : decode cX12_laysPlain 1 = .ok (.iconst (-1), 1) := by decide +kernel
theorem dX12_laysPlain_2 : decode cX12_laysPlain 2 = .ok (.iconst (-1), 1) := by decide +kernel
theorem dX12_laysPlain_3 : decode cX12_laysPlain 3 = .ok (.bipush 9, 2) := by decide +kernel
theorem dX12_laysPlain_5 : decode cX12_laysPlain 5 = .ok (.invokevirtual 330, 3) := by decide +kernel
theorem dX12_laysPlain_8 : decode cX12_laysPlain 8 = .ok (.return_, 1) := by decide +kernel
theorem dX12_isEnd_0 : decode cX12_isEnd 0 = .ok (.aload_n 0, 1) := by decide +kernel
theorem dX12_isEnd_1 : decode cX12_isEnd 1 = .ok (.getfield 50, 3) := by decide +kernel
theorem dX12_isEnd_4 : decode cX12_isEnd 4 = .ok (.iload_n 1, 1) := by decide +kernel
theorem dX12_isEnd_5 : decode cX12_isEnd 5 = .ok (.baload, 1) := by decide +kernel
theorem dX12_isEnd_6 : decode cX12_isEnd 6 = .ok (.ifCond .eq 20, 3) := by decide +kernel
theorem dX12_isEnd_9 : decode cX12_isEnd 9 = .ok (.iload_n 2, 1) := by decide +kernel
theorem dX12_isEnd_10 : decode cX12_isEnd 10 = .ok (.iconst (-1), 1) := by decide +kernel
theorem dX12_isEnd_11 : decode cX12_isEnd 11 = .ok (.if_icmp .eq 11, 3) := by decide +kernel
theorem dX12_isEnd_14 : decode cX12_isEnd 14 = .ok (.iload_n 1, 1) := by decide +kernel
theorem dX12_isEnd_15 : decode cX12_isEnd 15 = .ok (.invokestatic 231, 3) := by decide +kernel
theorem dX12_isEnd_18 : decode cX12_isEnd 18 = .ok (.iload_n 2, 1) := by decide +kernel
theorem dX12_isEnd_19 : decode cX12_isEnd 19 = .ok (.if_icmp .ne 7, 3) := by decide +kernel
theorem dX12_isEnd_22 : decode cX12_isEnd 22 = .ok (.iconst 1, 1) := by decide +kernel
theorem dX12_isEnd_23 : decode cX12_isEnd 23 = .ok (.goto 4, 3) := by decide +kernel
theorem dX12_isEnd_26 : decode cX12_isEnd 26 = .ok (.iconst 0, 1) := by decide +kernel
theorem dX12_isEnd_27 : decode cX12_isEnd 27 = .ok (.ireturn, 1) := by decide +kernel
theorem dX12_spokenBy_0 : decode cX12_spokenBy 0 = .ok (.iload_n 3, 1) := by decide +kernel
theorem dX12_spokenBy_1 : decode cX12_spokenBy 1 = .ok (.ifCond .eq 14, 3) := by decide +kernel
theorem dX12_spokenBy_4 : decode cX12_spokenBy 4 = .ok (.iload_n 1, 1) := by decide +kernel
theorem dX12_spokenBy_5 : decode cX12_spokenBy 5 = .ok (.iconst 1, 1) := by decide +kernel
theorem dX12_spokenBy_6 : decode cX12_spokenBy 6 = .ok (.iload_n 2, 1) := by decide +kernel
theorem dX12_spokenBy_7 : decode cX12_spokenBy 7 = .ok (.bipush 10, 2) := by decide +kernel
theorem dX12_spokenBy_9 : decode cX12_spokenBy 9 = .ok (.idiv, 1) := by decide +kernel
theorem dX12_spokenBy_10 : decode cX12_spokenBy 10 = .ok (.ishl, 1) := by decide +kernel
theorem dX12_spokenBy_11 : decode cX12_spokenBy 11 = .ok (.ior, 1) := by decide +kernel
theorem dX12_spokenBy_12 : decode cX12_spokenBy 12 = .ok (.goto 4, 3) := by decide +kernel
theorem dX12_spokenBy_15 : decode cX12_spokenBy 15 = .ok (.iconst 0, 1) := by decide +kernel
theorem dX12_spokenBy_16 : decode cX12_spokenBy 16 = .ok (.ireturn, 1) := by decide +kernel
section
variable (d : Nat) (sh : mbSh) (ct : mbCt) {β : Bk} {mk : Int → Int} {st : Int}
set_option maxRecDepth 4000 in
theorem tw_laysLeads {qu un mo : Int} (S : SH sh) (M : MD ct β mk st) (hq : -1 ≤ qu ∧ qu < 100) (hu : -1 ≤ un ∧ un < 100) (ho : 0 ≤ mo ∧ mo < 100) : Mt YX12_laysLeads (d + 4) [.inr (.inr 92), .inl qu, .inl un, .inl mo] sh sh ct (pN fun c => LD c β mk qu un mo ∧ eqBut [97, 98, 100, 103] ct c) := by
  have hmem := M.mem
  have hsay := M.say
  generalize hP : (pN fun c => LD c β mk qu un mo ∧ eqBut [97, 98, 100, 103] ct c) = Po
  have s100 : shA sh 100 = some (20, 70000) := S.at _ rfl
  have s103 : shA sh 103 = some (24, 700) := S.at _ rfl
  refine Mt.of rfl (Nat.le_of_ble_eq_true rfl) ?_
  show G _ 0 [some (.inr (.inr 92)), some (.inl qu), some (.inl un), some (.inl mo), none, none, none, none, none, none] [] sh ct
  refine g_iconst (q := 1) dX12_laysLeads_0 rfl ?_
  refine s_istore_10_4 (q := 3) dX12_laysLeads_1 rfl rfl rfl ?_
  refine g_for (fun x => [some (.inr (.inr 92)), some (.inl qu), some (.inl un), some (.inl mo), some (.inl x), none, none, none, none, none]) (fun x c => 0 ≤ x ∧ eqBut [97, 98, 100, 103] ct c ∧ (∀ j, 0 ≤ j → j < 100 * x → c 100 j = ldV β mk qu un mo (j / 100) (j % 100)) ∧ ∀ y, 0 ≤ y → y < x → c 103 y = b01 (β.cl y = true)) 700 ?_ ?_ (i := 0) (by omega) ⟨by omega, eqBut.rf, fun j _ _ => by omega, fun y _ _ => by omega⟩ (by simp [lsSub])
  · rintro x c hx ⟨x0, e1, i1, i2⟩ k
    have L1 : LK c := M.L.eb e1 rfl
    have M1 : MD c β mk st := M.eq L1 (e1 93 (by decide))
    refine g_iload (q := 5) dX12_laysLeads_3 rfl rfl ?_
    refine g_sipush (q := 8) dX12_laysLeads_5 (by decide +kernel) rfl ?_
    refine g_icmp_ge (q := 11) (tg := 166) dX12_laysLeads_8 (by decide) rfl (fun c_8 => ?_) (fun c_8 => ?_)
    · exact absurd c_8 (by unfold w32; omega)
    · refine g_aload_n (q := 12) dX12_laysLeads_11 rfl rfl ?_
      refine g_getA (q := 15) (kI := 24) fX12_50 (by first | assumption | exact S.at _ rfl) dX12_laysLeads_12 rfl rfl (by first | assumption | exact L.at _ _ rfl | exact LK.at (by assumption) _ _ rfl | ((repeat first | rewrite [wr_na (by decide)] | rewrite [wr_nk (by decide)] | rewrite [wa_na (by decide)]); first | assumption | exact LK.at (by assumption) _ _ rfl) | exact rfl) ?_
      refine g_iload (q := 17) dX12_laysLeads_15 rfl rfl ?_
      refine g_aload_n (q := 18) dX12_laysLeads_17 rfl rfl ?_
      refine g_iload (q := 20) dX12_laysLeads_18 rfl rfl ?_
      refine g_callV (q := 23) lX12_265 mX12_isClosed nX12_isClosed rfl (tw_isClosed (d + 1) sh _ S M1 x0 hx) (by first | assumption | exact S.at _ rfl) rfl rfl shLe.rf (rmOk.mk (by omega) (by first | exact shLe.rf | assumption)) (Nat.le_of_ble_eq_true rfl) dX12_laysLeads_20 rfl rfl (kI fun r c2 hp => ?_)
      obtain ⟨rfl, e2⟩ := hp
      have L2 : LK c2 := L1.eb e2 rfl
      have hb := b01_in (β.cl x = true)
      refine g_zastore (q := 24) (by first | assumption | exact S.at _ rfl) (by first | exact Or.inl rfl | exact Or.inr rfl | assumption) (by omega) (by omega) (by omega) dX12_laysLeads_23 rfl ?_
      refine g_iconst (q := 25) dX12_laysLeads_24 rfl ?_
      refine s_istore_10_5 (q := 27) dX12_laysLeads_25 rfl rfl rfl ?_
      refine g_for (fun v => [some (.inr (.inr 92)), some (.inl qu), some (.inl un), some (.inl mo), some (.inl x), some (.inl v), none, none, none, none]) (fun v c => 0 ≤ v ∧ eqBut [97, 98, 100, 103] ct c ∧ (∀ j, 0 ≤ j → j < 100 * x + v → c 100 j = ldV β mk qu un mo (j / 100) (j % 100)) ∧ ∀ y, 0 ≤ y → y < x + 1 → c 103 y = b01 (β.cl y = true)) 100 ?_ ?_ (i := 0) (by omega) ⟨by omega, ?_, ?_, ?_⟩ (by simp [lsSub])
      · rintro v c3 hv ⟨v0, f1, j1, j2⟩ k2
        have hv10 : (w32 v).tdiv (w32 10) = v / 10 := by rw [w32_id (x := v) (by omega) (by omega), td_pos v0]; rfl
        have hvm : (w32 v).tmod (w32 10) = v % 10 := by rw [w32_id (x := v) (by omega) (by omega), tm_pos v0]; rfl
        have at154 : ∀ (c4 : mbCt) (t : Int) (o8 o9 : Option gV), eqBut [97, 98] c3 c4 → t = ldV β mk qu un mo x v → G (mkK YX12_laysLeads (d + 4) sh sh Po) 153 [some (.inr (.inr 92)), some (.inl qu), some (.inl un), some (.inl mo), some (.inl x), some (.inl v), some (.inl (v / 10)), some (.inl (v % 10)), o8, o9] [.inl t, .inl (100 * x + v), .inr (.inr 100)] sh c4 := by
          intro c4 t o8 o9 g1 ht
          refine g_iastore (q := 154) (by first | assumption | exact S.at _ rfl) (by omega) (by omega) (by omega) dX12_laysLeads_153 rfl ?_
          refine s_iinc_10_5 (q := 157) dX12_laysLeads_154 rfl rfl rfl ?_
          refine g_goto (q := 27) dX12_laysLeads_157 (by decide) ?_
          refine k2 _ _ (by simp [lsSub]) ⟨by omega, (f1.tr (g1.mono (by decide))).wr (by decide), ?_, ?_⟩
          · intro j j0 j3
            by_cases hj : j = 100 * x + v
            · subst hj
              rw [wr_eq, ht, show (100 * x + v) / 100 = x by omega, show (100 * x + v) % 100 = v by omega]
            · rw [wr_nk hj, g1 100 (by decide)]
              exact j1 j j0 (by omega)
          · intro y y0 y1
            rw [wr_na (by decide), g1 103 (by decide)]
            exact j2 y y0 y1
        have at98_0 : ∀ c4 : mbCt, eqBut [97, 98] c3 c4 → ldV β mk qu un mo x v = -1 → G (mkK YX12_laysLeads (d + 4) sh sh Po) 98 [some (.inr (.inr 92)), some (.inl qu), some (.inl un), some (.inl mo), some (.inl x), some (.inl v), some (.inl (v / 10)), some (.inl (v % 10)), none, none] [.inl 0] sh c4 := by
          intro c4 g1 ht
          have L4 : LK c4 := (M.L.eb f1 rfl).eb g1 rfl
          refine s_istore_10_8 (q := 100) dX12_laysLeads_98 rfl rfl rfl ?_
          refine g_iload (q := 102) dX12_laysLeads_100 rfl rfl ?_
          refine g_if_eq (q := 105) (tg := 118) dX12_laysLeads_102 (by decide) rfl (fun c_102 => ?_) (fun c_102 => ?_)
          · refine g_iconst (q := 119) dX12_laysLeads_118 rfl ?_
            refine s_istore_10_9 (q := 121) dX12_laysLeads_119 rfl rfl rfl ?_
            refine g_aload_n (q := 122) dX12_laysLeads_121 rfl rfl ?_
            refine g_getA (q := 125) (kI := 21) fX12_40 (by first | assumption | exact S.at _ rfl) dX12_laysLeads_122 rfl rfl (by first | assumption | exact L.at _ _ rfl | exact LK.at (by assumption) _ _ rfl | ((repeat first | rewrite [wr_na (by decide)] | rewrite [wr_nk (by decide)] | rewrite [wa_na (by decide)]); first | assumption | exact LK.at (by assumption) _ _ rfl) | exact rfl) ?_
            refine g_bipush (q := 127) dX12_laysLeads_125 (by decide +kernel) rfl ?_
            refine g_iload (q := 129) dX12_laysLeads_127 rfl rfl ?_
            refine g_imul (q := 130) dX12_laysLeads_129 rfl ?_
            refine g_iload (q := 132) dX12_laysLeads_130 rfl rfl ?_
            refine g_iadd (q := 133) dX12_laysLeads_132 rfl ?_
            refine g_iload (q := 135) dX12_laysLeads_133 rfl rfl ?_
            refine g_if_eq (q := 138) (tg := 152) dX12_laysLeads_135 (by decide) rfl (fun c_135 => ?_) (fun c_135 => ?_)
            · refine g_iconst (q := 153) dX12_laysLeads_152 rfl ?_
              exact at154 c4 (-1) _ _ g1 ht.symm
            · exact absurd rfl c_135
          · exact absurd rfl c_102
        have at98_1 : ∀ c4 : mbCt, eqBut [97, 98] c3 c4 → (v / 10 < β.n 2 ∧ v % 10 < β.n 3 ∧ v / 10 ≠ qu ∧ v % 10 ≠ un ∧ β.W x (v / 10) (mk (v / 10)) (v % 10) = true) → G (mkK YX12_laysLeads (d + 4) sh sh Po) 98 [some (.inr (.inr 92)), some (.inl qu), some (.inl un), some (.inl mo), some (.inl x), some (.inl v), some (.inl (v / 10)), some (.inl (v % 10)), none, none] [.inl 1] sh c4 := by
          intro c4 g1 ht
          have L4 : LK c4 := (M.L.eb f1 rfl).eb g1 rfl
          have M4 : MD c4 β mk st := M.eq L4 (by rw [g1 93 (by decide), f1 93 (by decide)])
          have hnx := nxB_in (β := β) (st := x) (m := v / 10) (s := v % 10) (by omega) (by omega)
          refine s_istore_10_8 (q := 100) dX12_laysLeads_98 rfl rfl rfl ?_
          refine g_iload (q := 102) dX12_laysLeads_100 rfl rfl ?_
          refine g_if_eq (q := 105) (tg := 118) dX12_laysLeads_102 (by decide) rfl (fun c_102 => ?_) (fun c_102 => ?_)
          · exact absurd c_102 (by decide)
          · refine g_aload_n (q := 106) dX12_laysLeads_105 rfl rfl ?_
            refine g_iload (q := 108) dX12_laysLeads_106 rfl rfl ?_
            refine g_iload (q := 110) dX12_laysLeads_108 rfl rfl ?_
            refine g_iload (q := 112) dX12_laysLeads_110 rfl rfl ?_
            refine g_callV (q := 115) lX12_271 mX12_behindMinute nX12_behindMinute rfl (tw_behindMinute d sh _ M4 S x0 hx (by omega) (by omega)) (by first | assumption | exact S.at _ rfl) rfl rfl shLe.rf (rmOk.mk (by omega) (by first | exact shLe.rf | assumption)) (Nat.le_of_ble_eq_true rfl) dX12_laysLeads_112 rfl rfl (kI fun r_ c_ hp => ?_)
            obtain ⟨hr, hq⟩ := hp
            replace hr := hr.symm
            replace hq := hq.symm
            subst hr hq
            refine g_goto (q := 119) dX12_laysLeads_115 (by decide) ?_
            refine s_istore_10_9 (q := 121) dX12_laysLeads_119 rfl rfl rfl ?_
            refine g_aload_n (q := 122) dX12_laysLeads_121 rfl rfl ?_
            refine g_getA (q := 125) (kI := 21) fX12_40 (by first | assumption | exact S.at _ rfl) dX12_laysLeads_122 rfl rfl (by first | assumption | exact L.at _ _ rfl | exact LK.at (by assumption) _ _ rfl | ((repeat first | rewrite [wr_na (by decide)] | rewrite [wr_nk (by decide)] | rewrite [wa_na (by decide)]); first | assumption | exact LK.at (by assumption) _ _ rfl) | exact rfl) ?_
            refine g_bipush (q := 127) dX12_laysLeads_125 (by decide +kernel) rfl ?_
            refine g_iload (q := 129) dX12_laysLeads_127 rfl rfl ?_
            refine g_imul (q := 130) dX12_laysLeads_129 rfl ?_
            refine g_iload (q := 132) dX12_laysLeads_130 rfl rfl ?_
            refine g_iadd (q := 133) dX12_laysLeads_132 rfl ?_
            refine g_iload (q := 135) dX12_laysLeads_133 rfl rfl ?_
            refine g_if_eq (q := 138) (tg := 152) dX12_laysLeads_135 (by decide) rfl (fun c_135 => ?_) (fun c_135 => ?_)
            · exact absurd c_135 (by decide)
            · refine g_iload (q := 140) dX12_laysLeads_138 rfl rfl ?_
              refine g_callS (q := 143) lX12_234 mX12_heatOf sX12_heatOf rfl (tw_heatOf d sh _ hnx.1 (by omega)) shLe.rf (rmOk.mk (by omega) (by first | exact shLe.rf | assumption)) (Nat.le_of_ble_eq_true rfl) dX12_laysLeads_140 rfl rfl (kI fun r_ c_ hp => ?_)
              obtain ⟨hr, hq⟩ := hp
              replace hr := hr.symm
              replace hq := hq.symm
              subst hr hq
              refine g_iload_n (q := 144) dX12_laysLeads_143 rfl rfl ?_
              refine g_icmp_gt (q := 147) (tg := 152) dX12_laysLeads_144 (by decide) rfl (fun c_144 => ?_) (fun c_144 => ?_)
              · refine g_iconst (q := 153) dX12_laysLeads_152 rfl ?_
                refine at154 c4 (-1) _ _ g1 ?_
                unfold ldV
                rw [if_neg (fun z => by have := z.2; unfold w32 at c_144; omega)]
              · refine g_iload (q := 149) dX12_laysLeads_147 rfl rfl ?_
                refine g_goto (q := 153) dX12_laysLeads_149 (by decide) ?_
                refine at154 c4 _ _ _ g1 ?_
                unfold ldV
                rw [if_pos ⟨ht, by unfold w32 at c_144; omega⟩]
        have L3 : LK c3 := M.L.eb f1 rfl
        have M3 : MD c3 β mk st := M.eq L3 (f1 93 (by decide))
        have no : ¬ (v / 10 < β.n 2 ∧ v % 10 < β.n 3 ∧ v / 10 ≠ qu ∧ v % 10 ≠ un ∧ β.W x (v / 10) (mk (v / 10)) (v % 10) = true) → ldV β mk qu un mo x v = -1 := by
          intro h
          unfold ldV
          rw [if_neg (fun z => h z.1)]
        refine g_iload (q := 29) dX12_laysLeads_27 rfl rfl ?_
        refine g_bipush (q := 31) dX12_laysLeads_29 (by decide +kernel) rfl ?_
        refine g_icmp_ge (q := 34) (tg := 160) dX12_laysLeads_31 (by decide) rfl (fun c_31 => ?_) (fun c_31 => ?_)
        · exact absurd c_31 (by unfold w32; omega)
        · refine g_iload (q := 36) dX12_laysLeads_34 rfl rfl ?_
          refine g_bipush (q := 38) dX12_laysLeads_36 (by decide +kernel) rfl ?_
          refine g_idiv (q := 39) dX12_laysLeads_38 (by decide) rfl ?_
          rw [hv10]
          refine s_istore_10_6 (q := 41) dX12_laysLeads_39 rfl rfl rfl ?_
          refine g_iload (q := 43) dX12_laysLeads_41 rfl rfl ?_
          refine g_bipush (q := 45) dX12_laysLeads_43 (by decide +kernel) rfl ?_
          refine g_irem (q := 46) dX12_laysLeads_45 (by decide) rfl ?_
          rw [hvm]
          refine s_istore_10_7 (q := 48) dX12_laysLeads_46 rfl rfl rfl ?_
          refine g_aload_n (q := 49) dX12_laysLeads_48 rfl rfl ?_
          refine g_iload (q := 51) dX12_laysLeads_49 rfl rfl ?_
          refine g_i2l (q := 52) dX12_laysLeads_51 rfl ?_
          rw [w32_id (x := v / 10) (by omega) (by omega)]
          refine g_callV (q := 55) lX12_220 mX12_isMember nX12_isMember rfl (tw_isMember (d + 1) sh _ M3 S (by unfold i64; omega)) (by first | assumption | exact S.at _ rfl) rfl rfl shLe.rf (rmOk.mk (by omega) (by first | exact shLe.rf | assumption)) (Nat.le_of_ble_eq_true rfl) dX12_laysLeads_52 rfl rfl (kI fun r_ c_ hp => ?_)
          obtain ⟨hr, hq⟩ := hp
          replace hr := hr.symm
          replace hq := hq.symm
          subst hr hq
          refine g_if_eq (q := 58) (tg := 97) dX12_laysLeads_55 (by decide) rfl (fun c_55 => ?_) (fun c_55 => ?_)
          · refine g_iconst (q := 98) dX12_laysLeads_97 rfl ?_
            exact at98_0 _ eqBut.rf (no (by rw [wb0] at c_55; omega))
          · have hm := (wbn.mp c_55).2
            refine g_aload_n (q := 59) dX12_laysLeads_58 rfl rfl ?_
            refine g_iload (q := 61) dX12_laysLeads_59 rfl rfl ?_
            refine g_i2l (q := 62) dX12_laysLeads_61 rfl ?_
            rw [w32_id (x := v % 10) (by omega) (by omega)]
            refine g_callV (q := 65) lX12_224 mX12_isSaying nX12_isSaying rfl (tw_isSaying (d + 1) sh _ M3 S (by unfold i64; omega)) (by first | assumption | exact S.at _ rfl) rfl rfl shLe.rf (rmOk.mk (by omega) (by first | exact shLe.rf | assumption)) (Nat.le_of_ble_eq_true rfl) dX12_laysLeads_62 rfl rfl (kI fun r_ c_ hp => ?_)
            obtain ⟨hr, hq⟩ := hp
            replace hr := hr.symm
            replace hq := hq.symm
            subst hr hq
            refine g_if_eq (q := 68) (tg := 97) dX12_laysLeads_65 (by decide) rfl (fun c_65 => ?_) (fun c_65 => ?_)
            · refine g_iconst (q := 98) dX12_laysLeads_97 rfl ?_
              exact at98_0 _ eqBut.rf (no (by rw [wb0] at c_65; omega))
            · have hs := (wbn.mp c_65).2
              refine g_iload (q := 70) dX12_laysLeads_68 rfl rfl ?_
              refine g_iload_n (q := 71) dX12_laysLeads_70 rfl rfl ?_
              refine g_icmp_eq (q := 74) (tg := 97) dX12_laysLeads_71 (by decide) rfl (fun c_71 => ?_) (fun c_71 => ?_)
              · refine g_iconst (q := 98) dX12_laysLeads_97 rfl ?_
                exact at98_0 _ eqBut.rf (no (by unfold w32 at c_71; omega))
              · refine g_iload (q := 76) dX12_laysLeads_74 rfl rfl ?_
                refine g_iload_n (q := 77) dX12_laysLeads_76 rfl rfl ?_
                refine g_icmp_eq (q := 80) (tg := 97) dX12_laysLeads_77 (by decide) rfl (fun c_77 => ?_) (fun c_77 => ?_)
                · refine g_iconst (q := 98) dX12_laysLeads_97 rfl ?_
                  exact at98_0 _ eqBut.rf (no (by unfold w32 at c_77; omega))
                · have hqu : v / 10 ≠ qu := fun e => c_71 (by rw [e])
                  have hun : v % 10 ≠ un := fun e => c_77 (by rw [e])
                  refine g_aload_n (q := 81) dX12_laysLeads_80 rfl rfl ?_
                  refine g_iload (q := 83) dX12_laysLeads_81 rfl rfl ?_
                  refine g_iload (q := 85) dX12_laysLeads_83 rfl rfl ?_
                  refine g_iload (q := 87) dX12_laysLeads_85 rfl rfl ?_
                  refine g_callV (q := 90) lX12_254 mX12_wouldSay nX12_wouldSay rfl (tw_wouldSay d sh _ S M3 x0 hx (by omega) (by omega) (by omega) (by omega)) (by first | assumption | exact S.at _ rfl) rfl rfl shLe.rf (rmOk.mk (by omega) (by first | exact shLe.rf | assumption)) (Nat.le_of_ble_eq_true rfl) dX12_laysLeads_87 rfl rfl (kI fun r c5 hp => ?_)
                  obtain ⟨rfl, g5⟩ := hp
                  refine g_if_eq (q := 93) (tg := 97) dX12_laysLeads_90 (by decide) rfl (fun c_90 => ?_) (fun c_90 => ?_)
                  · refine g_iconst (q := 98) dX12_laysLeads_97 rfl ?_
                    exact at98_0 _ g5 (no (fun z => wb0.mp c_90 z.2.2.2.2))
                  · refine g_iconst (q := 94) dX12_laysLeads_93 rfl ?_
                    refine g_goto (q := 98) dX12_laysLeads_94 (by decide) ?_
                    exact at98_1 _ g5 ⟨hm, hs, hqu, hun, wbn.mp c_90⟩
      · rintro c3 ⟨-, f1, j1, j2⟩
        refine g_iload (q := 29) dX12_laysLeads_27 rfl rfl ?_
        refine g_bipush (q := 31) dX12_laysLeads_29 (by decide +kernel) rfl ?_
        refine g_icmp_ge (q := 34) (tg := 160) dX12_laysLeads_31 (by decide) rfl (fun c_31 => ?_) (fun c_31 => ?_)
        · refine s_iinc_10_4 (q := 163) dX12_laysLeads_160 rfl rfl rfl ?_
          refine g_goto (q := 3) dX12_laysLeads_163 (by decide) ?_
          exact k _ _ (by simp [lsSub]) ⟨by omega, f1, fun j j0 j3 => j1 j j0 (by omega), j2⟩
        · exact absurd c_31 (by decide)
      · exact (e1.tr (e2.mono (by decide))).wr (by decide)
      · intro j j0 j3
        rw [wr_na (by decide), e2 100 (by decide)]
        exact i1 j j0 (by omega)
      · intro y y0 y1
        by_cases hy : y = x
        · subst hy
          exact wr_eq
        · rw [wr_nk hy, e2 103 (by decide)]
          exact i2 y y0 (by omega)
  · rintro c ⟨-, e1, i1, i2⟩
    refine g_iload (q := 5) dX12_laysLeads_3 rfl rfl ?_
    refine g_sipush (q := 8) dX12_laysLeads_5 (by decide +kernel) rfl ?_
    refine g_icmp_ge (q := 11) (tg := 166) dX12_laysLeads_8 (by decide) rfl (fun c_8 => ?_) (fun c_8 => ?_)
    · refine g_return dX12_laysLeads_166 rfl ?_
      rw [← hP]
      exact ⟨rfl, ⟨i1, i2⟩, e1⟩
    · exact absurd c_8 (by decide)
theorem tw_laysPlain (S : SH sh) (M : MD ct β mk st) : Mt YX12_laysPlain (d + 5) [.inr (.inr 92)] sh sh ct (pN fun c => LD c β mk (-1) (-1) 9 ∧ eqBut [97, 98, 100, 103] ct c) := by
  refine Mt.of rfl (Nat.le_of_ble_eq_true rfl) ?_
  show G _ 0 [some (.inr (.inr 92))] [] sh ct
  refine g_aload_n (q := 1) dX12_laysPlain_0 rfl rfl ?_
  refine g_iconst (q := 2) dX12_laysPlain_1 rfl ?_
  refine g_iconst (q := 3) dX12_laysPlain_2 rfl ?_
  refine g_bipush (q := 5) dX12_laysPlain_3 (by decide +kernel) rfl ?_
  refine g_callV (q := 8) lX12_330 mX12_laysLeads nX12_laysLeads rfl (tw_laysLeads d sh _ S M (by omega) (by omega) (by omega)) (by first | assumption | exact S.at _ rfl) rfl rfl shLe.rf (rmOk.mk (by omega) (by first | exact shLe.rf | assumption)) (Nat.le_of_ble_eq_true rfl) dX12_laysPlain_5 rfl rfl (kN fun s_5 hp => ?_)
  obtain hp := hp
  refine g_return dX12_laysPlain_8 rfl ?_
  exact ⟨rfl, hp⟩
theorem tw_isEnd {x tone qu un mo : Int} (S : SH sh) (L : LK ct) (D : LD ct β mk qu un mo) (h0 : 0 ≤ x) (h1 : x < 700) (t0 : -1 ≤ tone) (t1 : tone ≤ 10) : Mt YX12_isEnd (d + 1) [.inr (.inr 92), .inl x, .inl tone] sh sh ct (pI fun r c => r = b01 (enB β x tone = true) ∧ c = ct) := by
  have hc := D.2 x h0 h1
  have hv : enB β x tone = true ↔ (tone = -1 ∨ x / 70 = tone) ∧ β.cl x = true := by unfold enB; simp
  refine Mt.of rfl (Nat.le_of_ble_eq_true rfl) ?_
  show G _ 0 [some (.inr (.inr 92)), some (.inl x), some (.inl tone)] [] sh ct
  refine g_aload_n (q := 1) dX12_isEnd_0 rfl rfl ?_
  refine g_getA (q := 4) (kI := 24) fX12_50 (by first | assumption | exact S.at _ rfl) dX12_isEnd_1 rfl rfl (by first | assumption | exact L.at _ _ rfl | exact LK.at (by assumption) _ _ rfl | ((repeat first | rewrite [wr_na (by decide)] | rewrite [wr_nk (by decide)] | rewrite [wa_na (by decide)]); first | assumption | exact LK.at (by assumption) _ _ rfl) | exact rfl) ?_
  refine g_iload_n (q := 5) dX12_isEnd_4 rfl rfl ?_
  refine g_zaload (q := 6) (by first | assumption | exact S.at _ rfl) (by omega) (by omega) (by omega) dX12_isEnd_5 rfl ?_
  refine g_if_eq (q := 9) (tg := 26) dX12_isEnd_6 (by decide) rfl (fun c_6 => ?_) (fun c_6 => ?_)
  · refine g_iconst (q := 27) dX12_isEnd_26 rfl ?_
    refine g_zreturn dX12_isEnd_27 rfl (by decide +kernel) ?_
    refine ⟨_, rfl, ?_, rfl⟩; rw [hc] at c_6; first | (apply b01_t; rw [hv]; refine ⟨?_, wbn.mp c_6⟩; unfold w32 at *; omega) | (apply b01_f; rw [hv]; intro z; first | exact wb0.mp c_6 z.2 | (have z1 := z.1; unfold w32 at *; omega))
  · refine g_iload_n (q := 10) dX12_isEnd_9 rfl rfl ?_
    refine g_iconst (q := 11) dX12_isEnd_10 rfl ?_
    refine g_icmp_eq (q := 14) (tg := 22) dX12_isEnd_11 (by decide) rfl (fun c_11 => ?_) (fun c_11 => ?_)
    · refine g_iconst (q := 23) dX12_isEnd_22 rfl ?_
      refine g_goto (q := 27) dX12_isEnd_23 (by decide) ?_
      refine g_zreturn dX12_isEnd_27 rfl (by decide +kernel) ?_
      refine ⟨_, rfl, ?_, rfl⟩; rw [hc] at c_6; first | (apply b01_t; rw [hv]; refine ⟨?_, wbn.mp c_6⟩; unfold w32 at *; omega) | (apply b01_f; rw [hv]; intro z; first | exact wb0.mp c_6 z.2 | (have z1 := z.1; unfold w32 at *; omega))
    · refine g_iload_n (q := 15) dX12_isEnd_14 rfl rfl ?_
      refine g_callS (q := 18) lX12_231 mX12_toneOf sX12_toneOf rfl (tw_toneOf d sh _ h0 (by omega)) shLe.rf (rmOk.mk (by omega) (by first | exact shLe.rf | assumption)) (Nat.le_of_ble_eq_true rfl) dX12_isEnd_15 rfl rfl (kI fun r_15 s_15 hp => ?_)
      obtain ⟨hr, hq⟩ := hp
      replace hr := hr.symm
      replace hq := hq.symm
      subst hr hq
      refine g_iload_n (q := 19) dX12_isEnd_18 rfl rfl ?_
      refine g_icmp_ne (q := 22) (tg := 26) dX12_isEnd_19 (by decide) rfl (fun c_19 => ?_) (fun c_19 => ?_)
      · refine g_iconst (q := 27) dX12_isEnd_26 rfl ?_
        refine g_zreturn dX12_isEnd_27 rfl (by decide +kernel) ?_
        refine ⟨_, rfl, ?_, rfl⟩; rw [hc] at c_6; first | (apply b01_t; rw [hv]; refine ⟨?_, wbn.mp c_6⟩; unfold w32 at *; omega) | (apply b01_f; rw [hv]; intro z; first | exact wb0.mp c_6 z.2 | (have z1 := z.1; unfold w32 at *; omega))
      · refine g_iconst (q := 23) dX12_isEnd_22 rfl ?_
        refine g_goto (q := 27) dX12_isEnd_23 (by decide) ?_
        refine g_zreturn dX12_isEnd_27 rfl (by decide +kernel) ?_
        refine ⟨_, rfl, ?_, rfl⟩; rw [hc] at c_6; first | (apply b01_t; rw [hv]; refine ⟨?_, wbn.mp c_6⟩; unfold w32 at *; omega) | (apply b01_f; rw [hv]; intro z; first | exact wb0.mp c_6 z.2 | (have z1 := z.1; unfold w32 at *; omega))
def spI (w x m : Int) : Int := if w = 0 then 0 else orI x (shlI 1 m)
theorem tw_spokenBy {x v f : Int} (hf : f = 0 ∨ f = 1) (v0 : 0 ≤ v) (v1 : v < 100) : Mt YX12_spokenBy d [.inr (.inr 92), .inl x, .inl v, .inl f] sh sh ct (pI fun r c => r = spI f x (v / 10) ∧ c = ct) := by
  have hv10 : (w32 v).tdiv (w32 10) = v / 10 := by rw [w32_id (x := v) (by omega) (by omega), td_pos v0]; rfl
  refine Mt.of rfl (Nat.le_of_ble_eq_true rfl) ?_
  show G _ 0 [some (.inr (.inr 92)), some (.inl x), some (.inl v), some (.inl f)] [] sh ct
  refine g_iload_n (q := 1) dX12_spokenBy_0 rfl rfl ?_
  refine g_if_eq (q := 4) (tg := 15) dX12_spokenBy_1 (by decide) rfl (fun c_1 => ?_) (fun c_1 => ?_)
  · refine g_iconst (q := 16) dX12_spokenBy_15 rfl ?_
    refine g_ireturn dX12_spokenBy_16 rfl ?_
    refine ⟨_, rfl, ?_, rfl⟩; unfold spI; first | (rw [if_neg (fun z => c_1 (by rw [z]; rfl)), hv10]) | (rw [if_pos (by rcases hf with h | h; exact h; rw [h] at c_1; exact absurd c_1 (by decide))])
  · refine g_iload_n (q := 5) dX12_spokenBy_4 rfl rfl ?_
    refine g_iconst (q := 6) dX12_spokenBy_5 rfl ?_
    refine g_iload_n (q := 7) dX12_spokenBy_6 rfl rfl ?_
    refine g_bipush (q := 9) dX12_spokenBy_7 (by decide +kernel) rfl ?_
    refine g_idiv (q := 10) dX12_spokenBy_9 (by decide) rfl ?_
    refine g_ishl (q := 11) dX12_spokenBy_10 rfl ?_
    refine g_ior (q := 12) dX12_spokenBy_11 rfl ?_
    refine g_goto (q := 16) dX12_spokenBy_12 (by decide) ?_
    refine g_ireturn dX12_spokenBy_16 rfl ?_
    refine ⟨_, rfl, ?_, rfl⟩; unfold spI; first | (rw [if_neg (fun z => c_1 (by rw [z]; rfl)), hv10]) | (rw [if_pos (by rcases hf with h | h; exact h; rw [h] at c_1; exact absurd c_1 (by decide))])
end
