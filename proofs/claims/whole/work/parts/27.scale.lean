/-! Scale: who would say what, when a sitting closes -/
def noAsk (f : Int → Int) (i : Int) (n : Nat) : Prop := ∀ op ∈ codeL f i n, ¬ (-6 ≤ op ∧ op ≤ -4)
/-- the laws of a book are well told -/
def bkWf (ct : mbCt) (b : Int) : Prop := (0 ≤ ct b 7 ∧ ct b 7 ≤ ct b 8 ∧ ct b 8 ≤ 900 ∧ (ct b 7 ≠ ct b 8 → wfL (ct (b + 4)) (ct b 7) (ct b 8 - ct b 7).toNat)) ∧ (0 ≤ ct b 9 ∧ ct b 9 ≤ ct b 10 ∧ ct b 10 ≤ 900 ∧ (ct b 9 ≠ ct b 10 → wfL (ct (b + 4)) (ct b 9) (ct b 10 - ct b 9).toNat ∧ noAsk (ct (b + 4)) (ct b 9) (ct b 10 - ct b 9).toNat))
def wouldB (ct : mbCt) (b st who mk sy : Int) : Bool := decide (ct b 7 = ct b 8 ∨ semL (askF st who mk sy) (codeL (ct (b + 4)) (ct b 7) (ct b 8 - ct b 7).toNat) [] = [1])
def closesB (ct : mbCt) (b st : Int) : Bool := if ct b 9 = ct b 10 then decide (st / 7 % 10 = 0) else decide (semL (askF st 0 0 0) (codeL (ct (b + 4)) (ct b 9) (ct b 10 - ct b 9).toNat) [] = [1])
theorem semS_congr {f g : Int → Int} {op : Int} {st : List Int} (h : ∀ i, 0 ≤ i → i < 3 → f i = g i) (hn : ¬ (-6 ≤ op ∧ op ≤ -4)) : semS f op st = semS g op st := by
  unfold semS
  split
  · rename_i h1
    split
    · rfl
    · rw [h (-1 - op) (by omega) (by omega)]
  · rfl
theorem semL_congr {f g : Int → Int} (h : ∀ i, 0 ≤ i → i < 3 → f i = g i) : ∀ (l : List Int) (st : List Int), (∀ op ∈ l, ¬ (-6 ≤ op ∧ op ≤ -4)) → semL f l st = semL g l st
  | [], st, _ => rfl
  | op :: r, st, hn => by
    show semL f r (semS f op st) = semL g r (semS g op st)
    rw [semS_congr h (hn op List.mem_cons_self)]
    exact semL_congr h r _ (fun o ho => hn o (List.mem_cons_of_mem _ ho))
theorem semS_all {f g : Int → Int} {op : Int} {st : List Int} (h : ∀ i, 0 ≤ i → i < 6 → f i = g i) : semS f op st = semS g op st := by
  unfold semS
  split
  · rename_i h1
    split
    · rfl
    · rw [h (-1 - op) (by omega) (by omega)]
  · rfl
theorem semL_all {f g : Int → Int} (h : ∀ i, 0 ≤ i → i < 6 → f i = g i) : ∀ (l : List Int) (st : List Int), semL f l st = semL g l st
  | [], st => rfl
  | op :: r, st => by
    show semL f r (semS f op st) = semL g r (semS g op st)
    rw [semS_all h]
    exact semL_all h r _
theorem nar01 {x : Int} (h : x = 0 ∨ x = 1) : narrow .boolean (.int (Int32.ofInt x)) = .int (Int32.ofInt x) := by
  rcases h with rfl | rfl <;> decide +kernel
section
variable (d : Nat) (sh : mbSh) (ct : mbCt)
theorem c_lastInLaw {x : Int} (h0 : 0 ≤ x) (h1 : x < 700) : Mt YX7_lastInLaw d [.inl x] sh sh ct (pI fun r c => r = (if x % 7 = 6 then 9 else x % 7) ∧ c = ct) := by
  have e : (w32 x).tmod (w32 7) = x % 7 := by rw [w32_id (by omega) (by omega), tm_pos h0]; rfl
  refine Mt.of rfl (Nat.le_of_ble_eq_true rfl) ?_
  show G _ 0 [some (.inl x), none] [] sh ct
  refine g_iload_n (q := 1) dX7_lastInLaw_0 rfl rfl ?_
  refine g_bipush (q := 3) dX7_lastInLaw_1 (by decide +kernel) rfl ?_
  refine g_irem (q := 4) dX7_lastInLaw_3 (by decide) rfl ?_
  rw [e]
  refine s_istore_n_2_1 (q := 5) dX7_lastInLaw_4 rfl rfl rfl ?_
  refine g_iload_n (q := 6) dX7_lastInLaw_5 rfl rfl ?_
  refine g_bipush (q := 8) dX7_lastInLaw_6 (by decide +kernel) rfl ?_
  refine g_icmp_ne (q := 11) (tg := 16) dX7_lastInLaw_8 (by decide) rfl (fun c_8 => ?_) (fun c_8 => ?_)
  · refine g_iload_n (q := 17) dX7_lastInLaw_16 rfl rfl ?_
    refine g_ireturn dX7_lastInLaw_17 rfl ?_
    refine ⟨_, rfl, ?_, rfl⟩; split <;> first | rfl | (exfalso; unfold w32 at *; omega)
  · refine g_bipush (q := 13) dX7_lastInLaw_11 (by decide +kernel) rfl ?_
    refine g_goto (q := 17) dX7_lastInLaw_13 (by decide) ?_
    refine g_ireturn dX7_lastInLaw_17 rfl ?_
    refine ⟨_, rfl, ?_, rfl⟩; split <;> first | rfl | (exfalso; unfold w32 at *; omega)
theorem c_wouldSay {b st who mk sy : Int} (S : SH sh) (L : LK ct) (hb : bkAt sh ct b) (hw : bkWf ct b) (h0 : 0 ≤ st) (h1 : st < 700) (w0 : 0 ≤ who) (w1 : who ≤ 1000) (m0 : 0 ≤ mk) (m1 : mk ≤ 1000) (s0 : 0 ≤ sy) (s1 : sy ≤ 1000) (ha : askOk (ct 69)) : Mt YX7_wouldSay (d + 1) [.inr (.inr 67), .inr (.inr b), .inl st, .inl who, .inl mk, .inl sy] sh sh ct (pI fun r c => r = b01 (wouldB ct b st who mk sy = true) ∧ eqBut [68, 69] ct c ∧ askOk (c 69)) := by
  obtain ⟨b1, b2, b3, b4, b5, b6, b7, b8, b9⟩ := hb
  obtain ⟨⟨p1, p2, p3, p4⟩, -⟩ := hw
  have n1 : b ≠ 69 := shA_ne b1 (S.at 69 rfl) (by decide)
  have n2 : b + 4 ≠ 69 := shA_ne b5 (S.at 69 rfl) (by decide)
  have s69 : shA sh 69 = some (20, 6) := S.at _ rfl
  refine Mt.of rfl (Nat.le_of_ble_eq_true rfl) ?_
  show G _ 0 [some (.inr (.inr 67)), some (.inr (.inr b)), some (.inl st), some (.inl who), some (.inl mk), some (.inl sy)] [] sh ct
  refine g_aload_n (q := 1) dX7_wouldSay_0 rfl rfl ?_
  refine g_getI (q := 4) (kI := 7) fX7_18 (by first | assumption | exact S.at _ rfl) dX7_wouldSay_1 rfl rfl ?_
  refine g_aload_n (q := 5) dX7_wouldSay_4 rfl rfl ?_
  refine g_getI (q := 8) (kI := 8) fX7_24 (by first | assumption | exact S.at _ rfl) dX7_wouldSay_5 rfl rfl ?_
  refine g_icmp_ne (q := 11) (tg := 13) dX7_wouldSay_8 (by decide) rfl (fun c_8 => ?_) (fun c_8 => ?_)
  · have hne : ct b 7 ≠ ct b 8 := fun h => c_8 (by rw [h])
    refine g_aload_n (q := 14) dX7_wouldSay_13 rfl rfl ?_
    refine g_getA (q := 17) (kI := 1) fX7_15 (by first | assumption | exact S.at _ rfl) dX7_wouldSay_14 rfl rfl (by first | assumption | exact L.at _ _ rfl | exact LK.at (by assumption) _ _ rfl | ((repeat first | rewrite [wr_na (by decide)] | rewrite [wr_nk (by decide)] | rewrite [wa_na (by decide)]); first | assumption | exact LK.at (by assumption) _ _ rfl) | exact rfl) ?_
    refine g_iconst (q := 18) dX7_wouldSay_17 rfl ?_
    refine g_iload_n (q := 19) dX7_wouldSay_18 rfl rfl ?_
    refine g_callSN (q := 22) lX7_27 mX11_toneOf sX11_toneOf rfl (c_toneOf d sh ct h0 (by omega)) shLe.rf (rmOk.mk (by omega) (by first | exact shLe.rf | assumption)) (Nat.le_of_ble_eq_true rfl) dX7_wouldSay_19 rfl rfl (kI fun r c hp => ?_)
    obtain ⟨rfl, rfl⟩ := hp
    refine g_iastore (q := 23) (by first | assumption | exact S.at _ rfl) (by omega) (by omega) (by omega) dX7_wouldSay_22 rfl ?_
    refine g_aload_n (q := 24) dX7_wouldSay_23 rfl rfl ?_
    refine g_getA (q := 27) (kI := 1) fX7_15 (by first | assumption | exact S.at _ rfl) dX7_wouldSay_24 rfl rfl (by first | assumption | exact L.at _ _ rfl | exact LK.at (by assumption) _ _ rfl | ((repeat first | rewrite [wr_na (by decide)] | rewrite [wr_nk (by decide)] | rewrite [wa_na (by decide)]); first | assumption | exact LK.at (by assumption) _ _ rfl) | exact rfl) ?_
    refine g_iconst (q := 28) dX7_wouldSay_27 rfl ?_
    refine g_iload_n (q := 29) dX7_wouldSay_28 rfl rfl ?_
    refine g_callSN (q := 32) lX7_31 mX11_heatOf sX11_heatOf rfl (c_heatOf d sh _ h0 (by omega)) shLe.rf (rmOk.mk (by omega) (by first | exact shLe.rf | assumption)) (Nat.le_of_ble_eq_true rfl) dX7_wouldSay_29 rfl rfl (kI fun r c2 hp => ?_)
    obtain ⟨rfl, rfl⟩ := hp
    refine g_iastore (q := 33) (by first | assumption | exact S.at _ rfl) (by omega) (by omega) (by omega) dX7_wouldSay_32 rfl ?_
    refine g_aload_n (q := 34) dX7_wouldSay_33 rfl rfl ?_
    refine g_getA (q := 37) (kI := 1) fX7_15 (by first | assumption | exact S.at _ rfl) dX7_wouldSay_34 rfl rfl (by first | assumption | exact L.at _ _ rfl | exact LK.at (by assumption) _ _ rfl | ((repeat first | rewrite [wr_na (by decide)] | rewrite [wr_nk (by decide)] | rewrite [wa_na (by decide)]); first | assumption | exact LK.at (by assumption) _ _ rfl) | exact rfl) ?_
    refine g_iconst (q := 38) dX7_wouldSay_37 rfl ?_
    refine g_iload_n (q := 39) dX7_wouldSay_38 rfl rfl ?_
    refine g_callS (q := 42) lX7_34 mX7_lastInLaw sX7_lastInLaw rfl (c_lastInLaw d sh _ h0 h1) shLe.rf (rmOk.mk (by omega) (by first | exact shLe.rf | assumption)) (Nat.le_of_ble_eq_true rfl) dX7_wouldSay_39 rfl rfl (kI fun r c2 hp => ?_)
    obtain ⟨rfl, rfl⟩ := hp
    refine g_iastore (q := 43) (by first | assumption | exact S.at _ rfl) (by omega) (by omega) (by omega) dX7_wouldSay_42 rfl ?_
    refine g_aload_n (q := 44) dX7_wouldSay_43 rfl rfl ?_
    refine g_getA (q := 47) (kI := 1) fX7_15 (by first | assumption | exact S.at _ rfl) dX7_wouldSay_44 rfl rfl (by first | assumption | exact L.at _ _ rfl | exact LK.at (by assumption) _ _ rfl | ((repeat first | rewrite [wr_na (by decide)] | rewrite [wr_nk (by decide)] | rewrite [wa_na (by decide)]); first | assumption | exact LK.at (by assumption) _ _ rfl) | exact rfl) ?_
    refine g_iconst (q := 48) dX7_wouldSay_47 rfl ?_
    refine g_iload_n (q := 49) dX7_wouldSay_48 rfl rfl ?_
    refine g_iastore (q := 50) (by first | assumption | exact S.at _ rfl) (by omega) (by omega) (by omega) dX7_wouldSay_49 rfl ?_
    refine g_aload_n (q := 51) dX7_wouldSay_50 rfl rfl ?_
    refine g_getA (q := 54) (kI := 1) fX7_15 (by first | assumption | exact S.at _ rfl) dX7_wouldSay_51 rfl rfl (by first | assumption | exact L.at _ _ rfl | exact LK.at (by assumption) _ _ rfl | ((repeat first | rewrite [wr_na (by decide)] | rewrite [wr_nk (by decide)] | rewrite [wa_na (by decide)]); first | assumption | exact LK.at (by assumption) _ _ rfl) | exact rfl) ?_
    refine g_iconst (q := 55) dX7_wouldSay_54 rfl ?_
    refine g_iload (q := 57) dX7_wouldSay_55 rfl rfl ?_
    refine g_iastore (q := 58) (by first | assumption | exact S.at _ rfl) (by omega) (by omega) (by omega) dX7_wouldSay_57 rfl ?_
    refine g_aload_n (q := 59) dX7_wouldSay_58 rfl rfl ?_
    refine g_getA (q := 62) (kI := 1) fX7_15 (by first | assumption | exact S.at _ rfl) dX7_wouldSay_59 rfl rfl (by first | assumption | exact L.at _ _ rfl | exact LK.at (by assumption) _ _ rfl | ((repeat first | rewrite [wr_na (by decide)] | rewrite [wr_nk (by decide)] | rewrite [wa_na (by decide)]); first | assumption | exact LK.at (by assumption) _ _ rfl) | exact rfl) ?_
    refine g_iconst (q := 63) dX7_wouldSay_62 rfl ?_
    refine g_iload (q := 65) dX7_wouldSay_63 rfl rfl ?_
    refine g_iastore (q := 66) (by first | assumption | exact S.at _ rfl) (by omega) (by omega) (by omega) dX7_wouldSay_65 rfl ?_
    generalize hc : wr _ 69 5 sy = c1
    have e1 : ∀ x, x ≠ 69 → c1 x = c x := by
      intro x hx
      rw [← hc]
      simp only [wr_other _ _ _ _ x hx]
    have e2 : ∀ i, 0 ≤ i → i < 6 → c1 69 i = askF st who mk sy i := by
      intro i i0 i1
      rw [← hc]
      unfold wr askF
      rcases (show i = 0 ∨ i = 1 ∨ i = 2 ∨ i = 3 ∨ i = 4 ∨ i = 5 by omega) with rfl | rfl | rfl | rfl | rfl | rfl <;> simp
    have L1 : LK c1 := L.but (A := [69]) (fun x hx => e1 x (by simpa using hx)) (by
      intro a ha k v hv
      rw [List.mem_singleton.mp ha, lkF_none rfl] at hv
      cases hv)
    have e3 : c1 (b + 4) = c (b + 4) := e1 _ n2
    have e4 : c1 b = c b := e1 _ n1
    have ha1 : askOk (c1 69) := by
      intro i i0 i1
      rw [e2 i i0 i1]
      unfold askF
      split
      · omega
      · split
        · omega
        · split
          · split <;> omega
          · split
            · omega
            · split <;> omega
    refine g_aload_n (q := 67) dX7_wouldSay_66 rfl rfl ?_
    refine g_aload_n (q := 68) dX7_wouldSay_67 rfl rfl ?_
    refine g_aload_n (q := 69) dX7_wouldSay_68 rfl rfl ?_
    refine g_getI (q := 72) (kI := 7) fX7_18 (by first | assumption | exact S.at _ rfl) dX7_wouldSay_69 rfl rfl ?_
    refine g_aload_n (q := 73) dX7_wouldSay_72 rfl rfl ?_
    refine g_getI (q := 76) (kI := 8) fX7_24 (by first | assumption | exact S.at _ rfl) dX7_wouldSay_73 rfl rfl ?_
    rw [e4]
    refine g_callV (q := 79) lX7_37 mX7_holds nX7_holds rfl (c_holds d sh c1 (b := b) (n := (c b 8 - c b 7).toNat) S L1 ⟨b1, b2, b3, b4, b5, by rw [e4]; exact b6, by rw [e4]; exact b7, by rw [e4]; exact b8, by rw [e4]; exact b9⟩ (by omega) p1 p3 (by rw [e3]; exact p4 hne) ha1) (by first | assumption | exact S.at _ rfl) rfl rfl shLe.rf (rmOk.mk (by omega) (by first | exact shLe.rf | assumption)) (Nat.le_of_ble_eq_true rfl) dX7_wouldSay_76 rfl rfl (kI fun r c2 hp => ?_)
    obtain ⟨hr, he⟩ := hp
    refine g_zreturn dX7_wouldSay_79 rfl (nar01 (by rw [hr]; exact b01_in _)) ?_
    refine ⟨_, rfl, ?_, ?_, ?_⟩
    · rw [hr, semL_all e2, e3]
      unfold b01 wouldB
      simp [hne]
    · exact (eqBut.mono (A := [69]) (fun x hx => e1 x (by simpa using hx)) (by simp)).tr (he.mono (by simp))
    · rw [he 69 (by decide)]
      exact ha1
  · have heq : ct b 7 = ct b 8 := by unfold w32 at c_8; omega
    refine g_iconst (q := 12) dX7_wouldSay_11 rfl ?_
    refine g_zreturn dX7_wouldSay_12 rfl (by decide +kernel) ?_
    refine ⟨_, rfl, ?_, eqBut.rf, ha⟩
    apply b01_t
    unfold wouldB
    simp [heq]
theorem c_closesAt {b st : Int} (S : SH sh) (L : LK ct) (hb : bkAt sh ct b) (hw : bkWf ct b) (h0 : 0 ≤ st) (h1 : st < 700) (ha : askOk (ct 69)) : Mt YX7_closesAt (d + 1) [.inr (.inr 67), .inr (.inr b), .inl st] sh sh ct (pI fun r c => r = b01 (closesB ct b st = true) ∧ eqBut [68, 69] ct c ∧ askOk (c 69)) := by
  obtain ⟨b1, b2, b3, b4, b5, b6, b7, b8, b9⟩ := hb
  obtain ⟨-, p1, p2, p3, p4⟩ := hw
  have n1 : b ≠ 69 := shA_ne b1 (S.at 69 rfl) (by decide)
  have n2 : b + 4 ≠ 69 := shA_ne b5 (S.at 69 rfl) (by decide)
  have s69 : shA sh 69 = some (20, 6) := S.at _ rfl
  refine Mt.of rfl (Nat.le_of_ble_eq_true rfl) ?_
  show G _ 0 [some (.inr (.inr 67)), some (.inr (.inr b)), some (.inl st)] [] sh ct
  refine g_aload_n (q := 1) dX7_closesAt_0 rfl rfl ?_
  refine g_getI (q := 4) (kI := 9) fX7_41 (by first | assumption | exact S.at _ rfl) dX7_closesAt_1 rfl rfl ?_
  refine g_aload_n (q := 5) dX7_closesAt_4 rfl rfl ?_
  refine g_getI (q := 8) (kI := 10) fX7_44 (by first | assumption | exact S.at _ rfl) dX7_closesAt_5 rfl rfl ?_
  refine g_icmp_ne (q := 11) (tg := 24) dX7_closesAt_8 (by decide) rfl (fun c_8 => ?_) (fun c_8 => ?_)
  · have hne : ct b 9 ≠ ct b 10 := fun h => c_8 (by rw [h])
    refine g_aload_n (q := 25) dX7_closesAt_24 rfl rfl ?_
    refine g_getA (q := 28) (kI := 1) fX7_15 (by first | assumption | exact S.at _ rfl) dX7_closesAt_25 rfl rfl (by first | assumption | exact L.at _ _ rfl | exact LK.at (by assumption) _ _ rfl | ((repeat first | rewrite [wr_na (by decide)] | rewrite [wr_nk (by decide)] | rewrite [wa_na (by decide)]); first | assumption | exact LK.at (by assumption) _ _ rfl) | exact rfl) ?_
    refine g_iconst (q := 29) dX7_closesAt_28 rfl ?_
    refine g_iload_n (q := 30) dX7_closesAt_29 rfl rfl ?_
    refine g_callSN (q := 33) lX7_27 mX11_toneOf sX11_toneOf rfl (c_toneOf d sh ct h0 (by omega)) shLe.rf (rmOk.mk (by omega) (by first | exact shLe.rf | assumption)) (Nat.le_of_ble_eq_true rfl) dX7_closesAt_30 rfl rfl (kI fun r c hp => ?_)
    obtain ⟨rfl, rfl⟩ := hp
    refine g_iastore (q := 34) (by first | assumption | exact S.at _ rfl) (by omega) (by omega) (by omega) dX7_closesAt_33 rfl ?_
    refine g_aload_n (q := 35) dX7_closesAt_34 rfl rfl ?_
    refine g_getA (q := 38) (kI := 1) fX7_15 (by first | assumption | exact S.at _ rfl) dX7_closesAt_35 rfl rfl (by first | assumption | exact L.at _ _ rfl | exact LK.at (by assumption) _ _ rfl | ((repeat first | rewrite [wr_na (by decide)] | rewrite [wr_nk (by decide)] | rewrite [wa_na (by decide)]); first | assumption | exact LK.at (by assumption) _ _ rfl) | exact rfl) ?_
    refine g_iconst (q := 39) dX7_closesAt_38 rfl ?_
    refine g_iload_n (q := 40) dX7_closesAt_39 rfl rfl ?_
    refine g_callSN (q := 43) lX7_31 mX11_heatOf sX11_heatOf rfl (c_heatOf d sh _ h0 (by omega)) shLe.rf (rmOk.mk (by omega) (by first | exact shLe.rf | assumption)) (Nat.le_of_ble_eq_true rfl) dX7_closesAt_40 rfl rfl (kI fun r c2 hp => ?_)
    obtain ⟨rfl, rfl⟩ := hp
    refine g_iastore (q := 44) (by first | assumption | exact S.at _ rfl) (by omega) (by omega) (by omega) dX7_closesAt_43 rfl ?_
    refine g_aload_n (q := 45) dX7_closesAt_44 rfl rfl ?_
    refine g_getA (q := 48) (kI := 1) fX7_15 (by first | assumption | exact S.at _ rfl) dX7_closesAt_45 rfl rfl (by first | assumption | exact L.at _ _ rfl | exact LK.at (by assumption) _ _ rfl | ((repeat first | rewrite [wr_na (by decide)] | rewrite [wr_nk (by decide)] | rewrite [wa_na (by decide)]); first | assumption | exact LK.at (by assumption) _ _ rfl) | exact rfl) ?_
    refine g_iconst (q := 49) dX7_closesAt_48 rfl ?_
    refine g_iload_n (q := 50) dX7_closesAt_49 rfl rfl ?_
    refine g_callS (q := 53) lX7_34 mX7_lastInLaw sX7_lastInLaw rfl (c_lastInLaw d sh _ h0 h1) shLe.rf (rmOk.mk (by omega) (by first | exact shLe.rf | assumption)) (Nat.le_of_ble_eq_true rfl) dX7_closesAt_50 rfl rfl (kI fun r c2 hp => ?_)
    obtain ⟨rfl, rfl⟩ := hp
    refine g_iastore (q := 54) (by first | assumption | exact S.at _ rfl) (by omega) (by omega) (by omega) dX7_closesAt_53 rfl ?_
    generalize hc : wr _ 69 2 _ = c1
    have e1 : ∀ x, x ≠ 69 → c1 x = c x := by
      intro x hx
      rw [← hc]
      simp only [wr_other _ _ _ _ x hx]
    have e2 : ∀ i, 0 ≤ i → i < 3 → c1 69 i = askF st 0 0 0 i := by
      intro i i0 i1
      rw [← hc]
      unfold wr askF
      rcases (show i = 0 ∨ i = 1 ∨ i = 2 by omega) with rfl | rfl | rfl <;> simp
    have L1 : LK c1 := L.but (A := [69]) (fun x hx => e1 x (by simpa using hx)) (by
      intro a ha k v hv
      rw [List.mem_singleton.mp ha, lkF_none rfl] at hv
      cases hv)
    have e3 : c1 (b + 4) = c (b + 4) := e1 _ n2
    have e4 : c1 b = c b := e1 _ n1
    have ha1 : askOk (c1 69) := by
      intro i i0 i1
      by_cases hi : i < 3
      · rw [e2 i i0 hi]
        unfold askF
        split
        · omega
        · split
          · omega
          · split
            · split <;> omega
            · omega
      · have : c1 69 i = c 69 i := by
          rw [← hc]
          unfold wr
          grind
        rw [this]
        exact ha i i0 i1
    refine g_aload_n (q := 55) dX7_closesAt_54 rfl rfl ?_
    refine g_aload_n (q := 56) dX7_closesAt_55 rfl rfl ?_
    refine g_aload_n (q := 57) dX7_closesAt_56 rfl rfl ?_
    refine g_getI (q := 60) (kI := 9) fX7_41 (by first | assumption | exact S.at _ rfl) dX7_closesAt_57 rfl rfl ?_
    refine g_aload_n (q := 61) dX7_closesAt_60 rfl rfl ?_
    refine g_getI (q := 64) (kI := 10) fX7_44 (by first | assumption | exact S.at _ rfl) dX7_closesAt_61 rfl rfl ?_
    rw [e4]
    refine g_callV (q := 67) lX7_37 mX7_holds nX7_holds rfl (c_holds d sh c1 (b := b) (n := (c b 10 - c b 9).toNat) S L1 ⟨b1, b2, b3, b4, b5, by rw [e4]; exact b6, by rw [e4]; exact b7, by rw [e4]; exact b8, by rw [e4]; exact b9⟩ (by omega) p1 p3 (by rw [e3]; exact (p4 hne).1) ha1) (by first | assumption | exact S.at _ rfl) rfl rfl shLe.rf (rmOk.mk (by omega) (by first | exact shLe.rf | assumption)) (Nat.le_of_ble_eq_true rfl) dX7_closesAt_64 rfl rfl (kI fun r c2 hp => ?_)
    obtain ⟨hr, he⟩ := hp
    refine g_zreturn dX7_closesAt_67 rfl (nar01 (by rw [hr]; exact b01_in _)) ?_
    refine ⟨_, rfl, ?_, ?_, ?_⟩
    · rw [hr, e3, semL_congr e2 _ _ (p4 hne).2]
      unfold b01 closesB
      simp [hne]
    · exact (eqBut.mono (A := [69]) (fun x hx => e1 x (by simpa using hx)) (by simp)).tr (he.mono (by simp))
    · rw [he 69 (by decide)]
      exact ha1
  · have heq : ct b 9 = ct b 10 := by unfold w32 at c_8; omega
    refine g_iload_n (q := 12) dX7_closesAt_11 rfl rfl ?_
    refine g_callSN (q := 15) lX7_31 mX11_heatOf sX11_heatOf rfl (c_heatOf d sh ct h0 (by omega)) shLe.rf (rmOk.mk (by omega) (by first | exact shLe.rf | assumption)) (Nat.le_of_ble_eq_true rfl) dX7_closesAt_12 rfl rfl (kI fun r c hp => ?_)
    obtain ⟨rfl, rfl⟩ := hp
    refine g_if_ne (q := 18) (tg := 22) dX7_closesAt_15 (by decide) rfl (fun c_15 => ?_) (fun c_15 => ?_)
    · refine g_iconst (q := 23) dX7_closesAt_22 rfl ?_
      refine g_zreturn dX7_closesAt_23 rfl (by decide +kernel) ?_
      refine ⟨_, rfl, ?_, eqBut.rf, ha⟩
      apply b01_f
      unfold closesB
      rw [if_pos heq]
      unfold w32 at c_15
      simp
      omega
    · refine g_iconst (q := 19) dX7_closesAt_18 rfl ?_
      refine g_goto (q := 23) dX7_closesAt_19 (by decide) ?_
      refine g_zreturn dX7_closesAt_23 rfl (by decide +kernel) ?_
      refine ⟨_, rfl, ?_, eqBut.rf, ha⟩
      apply b01_t
      unfold closesB
      rw [if_pos heq]
      unfold w32 at c_15
      simp
      omega
end
