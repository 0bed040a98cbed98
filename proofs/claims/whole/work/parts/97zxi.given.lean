/-! what the statement gives of the begin -/
def flC : List Cond := flatC (Jvm.Cond.and given_1 narrow_1)
def tmS : Nat → Term := fun i => match i with
  | 0 => .string "MinuteBookModel" 94
  | 1 => .string "MinuteBook$Reader" 90
  | _ => .string "MinuteBookModel" 132
abbrev tmV (i : Nat) : Term := .field (tmS i) "java/lang/String" "value" "[B"
theorem fl_el0 : ∀ j : Fin 93, flC[193 + j.val]? = some (Cond.eq (.elem (tmV 0) (.int (Int32.ofNat j.val))) (.int ((mbByt.getD 0 []).getD j.val 0))) := by decide +kernel
theorem fl_el1 : ∀ j : Fin 92, flC[80 + j.val]? = some (Cond.eq (.elem (tmV 1) (.int (Int32.ofNat j.val))) (.int ((mbByt.getD 1 []).getD j.val 0))) := by decide +kernel
theorem fl_el2 : ∀ j : Fin 12, flC[292 + j.val]? = some (Cond.eq (.elem (tmV 2) (.int (Int32.ofNat j.val))) (.int ((mbByt.getD 2 []).getD j.val 0))) := by decide +kernel
theorem fl_ab : ∀ j : Fin 11, flC[12 + j.val]? = some (Cond.eq (.elem (.static "MinuteBook" "PASSES_ABOVE" "[I") (.int (Int32.ofNat j.val))) (.int (Int32.ofInt (mbAb.getD j.val 0)))) := by decide +kernel
theorem fl_be : ∀ j : Fin 11, flC[26 + j.val]? = some (Cond.eq (.elem (.static "MinuteBook" "PASSES_BELOW" "[I") (.int (Int32.ofNat j.val))) (.int (Int32.ofInt (mbBe.getD j.val 0)))) := by decide +kernel
theorem fl_189 : flC[189]? = some (Cond.exactly (tmS 0) "java/lang/String") := by decide +kernel
theorem fl_190 : flC[190]? = some (Cond.eq (.field (tmS 0) "java/lang/String" "coder" "B") (.int 0)) := by decide +kernel
theorem fl_191 : flC[191]? = some (Cond.arrayOf (tmV 0) .byte) := by decide +kernel
theorem fl_192 : flC[192]? = some (Cond.eq (.length (tmV 0)) (.int (Int32.ofNat (mbLen.getD 0 0)))) := by decide +kernel
theorem fl_76 : flC[76]? = some (Cond.exactly (tmS 1) "java/lang/String") := by decide +kernel
theorem fl_77 : flC[77]? = some (Cond.eq (.field (tmS 1) "java/lang/String" "coder" "B") (.int 0)) := by decide +kernel
theorem fl_78 : flC[78]? = some (Cond.arrayOf (tmV 1) .byte) := by decide +kernel
theorem fl_79 : flC[79]? = some (Cond.eq (.length (tmV 1)) (.int (Int32.ofNat (mbLen.getD 1 0)))) := by decide +kernel
theorem fl_288 : flC[288]? = some (Cond.exactly (tmS 2) "java/lang/String") := by decide +kernel
theorem fl_289 : flC[289]? = some (Cond.eq (.field (tmS 2) "java/lang/String" "coder" "B") (.int 0)) := by decide +kernel
theorem fl_290 : flC[290]? = some (Cond.arrayOf (tmV 2) .byte) := by decide +kernel
theorem fl_291 : flC[291]? = some (Cond.eq (.length (tmV 2)) (.int (Int32.ofNat (mbLen.getD 2 0)))) := by decide +kernel
theorem fl_172 : flC[172]? = some (Cond.exactly (.string "MinuteBook$Reader" 82) "java/lang/String") := by decide +kernel
theorem fl_286 : flC[286]? = some (Cond.not (Cond.eq (tmS 1) (tmS 0))) := by decide +kernel
theorem fl_306 : flC[306]? = some (Cond.not (Cond.eq (tmS 0) (tmS 2))) := by decide +kernel
theorem fl_304 : flC[304]? = some (Cond.not (Cond.eq (tmS 1) (tmS 2))) := by decide +kernel
theorem fl_305 : flC[305]? = some (Cond.eq (.string "MinuteBook$Reader" 82) (tmS 2)) := by decide +kernel
theorem fl_10 : flC[10]? = some (Cond.arrayOf (.static "MinuteBook" "PASSES_ABOVE" "[I") .int) := by decide +kernel
theorem fl_11 : flC[11]? = some (Cond.eq (.length (.static "MinuteBook" "PASSES_ABOVE" "[I")) (.int (Int32.ofNat 11))) := by decide +kernel
theorem fl_24 : flC[24]? = some (Cond.arrayOf (.static "MinuteBook" "PASSES_BELOW" "[I") .int) := by decide +kernel
theorem fl_25 : flC[25]? = some (Cond.eq (.length (.static "MinuteBook" "PASSES_BELOW" "[I")) (.int (Int32.ofNat 11))) := by decide +kernel
theorem fl_4 : flC[4]? = some (Cond.eq (.static "java/lang/String" "COMPACT_STRINGS" "Z") (.int 1)) := by decide +kernel
theorem fl_5 : flC[5]? = some (Cond.isRef (.static "jdk/internal/util/Preconditions" "SIOOBE_FORMATTER" "Ljava/util/function/BiFunction;")) := by decide +kernel
theorem tb_1 : tables_1[1]? = some (Cond.initialized "MinuteBook") := by decide +kernel
theorem tb_16 : tables_1[16]? = some (Cond.initialized "java/lang/String") := by decide +kernel
theorem tb_18 : tables_1[18]? = some (Cond.initialized "jdk/internal/util/Preconditions") := by decide +kernel
theorem tb_149 : tables_1[149]? = some (Cond.arrayOver (.object RX8)) := by decide +kernel
theorem tb_163 : tables_1[163]? = some (Cond.arrayOver (.object RX9)) := by decide +kernel
theorem tb_182 : tables_1[182]? = some (Cond.arrayOver (.object RX2)) := by decide +kernel
theorem tb_518 : tables_1[518]? = some (Cond.stringRef RX6 90 "book tone heat member mark saying up down warm cool would closes stroke or and not last who ") := by decide +kernel
theorem tb_582 : tables_1[582]? = some (Cond.stringRef RX6 82 ";:+-*()[]=<>") := by decide +kernel
theorem tb_1483 : tables_1[1483]? = some (Cond.stringRef RX12 94 " book tone heat member mark saying up down warm cool would closes stroke last who and or not ") := by decide +kernel
theorem tb_1489 : tables_1[1489]? = some (Cond.stringRef RX12 132 ";:+-*()[]=<>") := by decide +kernel
theorem tb_528 : tables_1[528]? = some (Cond.laysStatic "java/lang/String" "COMPACT_STRINGS" "Z") := by decide +kernel
theorem tb_544 : tables_1[544]? = some (Cond.laysStatic "jdk/internal/util/Preconditions" "SIOOBE_FORMATTER" "Ljava/util/function/BiFunction;") := by decide +kernel
theorem tb_1274 : tables_1[1274]? = some (Cond.laysStatic RX11 "PASSES_ABOVE" "[I") := by decide +kernel
theorem tb_1276 : tables_1[1276]? = some (Cond.laysStatic RX11 "PASSES_BELOW" "[I") := by decide +kernel
theorem prim_arr {args : Array Value} {s : State} {ty : FieldType} (h : (Cond.arrayClass ty).before args s = true) (hr : ∀ c, s.vm.findClass ("[" ++ ty.toString) = some c → va_RA s c ty) : ∃ c : ClassId, ArrOfT s c ty ∧ va_RA s c ty := by
  obtain ⟨c, k, comp, h1, h2, h3⟩ := Cond.arrayClass_spec (args := args) (first := s) (o := none) (s := s) (idx := []) h
  exact ⟨c, fun n z => ⟨fun k h => (by cases h), k, h2, comp, h3⟩, hr c h1⟩
theorem obj_arr {args : Array Value} {s : State} {C : String} (h : (Cond.arrayOver (.object C)).before args s = true) : ∃ c : ClassId, ArrOfT s c (.object C) ∧ va_RA s c (.object C) := by
  obtain ⟨comp, c, k, h1, -, h2, h3, h4⟩ := Cond.arrayOver_spec (args := args) (first := s) (o := none) (s := s) (idx := []) h
  exact ⟨c, fun n z => ⟨fun k h => (by cases h), k, h2, comp, h3⟩, k, comp, h2, h3, h1, h4⟩
