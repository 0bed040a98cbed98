/-! Scale: a law is weighed -/
theorem cmp_le {x y : Int} (h1 : -9223372036854775808 ≤ x) (h2 : x < 9223372036854775808) (h3 : -9223372036854775808 ≤ y) (h4 : y < 9223372036854775808) : w32 (cmpL x y) ≤ 0 ↔ x ≤ y := by
  unfold cmpL
  rw [w64_id h1 h2, w64_id h3 h4]
  split
  · rw [show w32 0 = 0 from rfl]
    omega
  · split
    · rw [show w32 (-1) = -1 from rfl]
      omega
    · rw [show w32 1 = 1 from rfl]
      omega
theorem cmp_ge {x y : Int} (h1 : -9223372036854775808 ≤ x) (h2 : x < 9223372036854775808) (h3 : -9223372036854775808 ≤ y) (h4 : y < 9223372036854775808) : 0 ≤ w32 (cmpL x y) ↔ y ≤ x := by
  unfold cmpL
  rw [w64_id h1 h2, w64_id h3 h4]
  split
  · rw [show w32 0 = 0 from rfl]
    omega
  · split
    · rw [show w32 (-1) = -1 from rfl]
      omega
    · rw [show w32 1 = 1 from rfl]
      omega
def lsSub : List (Option gV) → List (Option gV) → Prop
  | [], _ => True
  | none :: r, _ :: r2 => lsSub r r2
  | some v :: r, o :: r2 => o = some v ∧ lsSub r r2
  | _ :: _, [] => False
theorem lsSub_at : ∀ {a b : List (Option gV)}, lsSub a b → ∀ (i : Nat) (v : gV), a[i]? = some (some v) → b[i]? = some (some v)
  | [], _, _, i, v, h => by simp at h
  | none :: r, o :: r2, hs, i, v, h => by
    match i, h with
    | 0, h => simp at h
    | i + 1, h => simp at h; simpa using lsSub_at (a := r) (b := r2) hs i v h
  | some w :: r, o :: r2, hs, i, v, h => by
    match i, h with
    | 0, h => simp at h; simp [hs.1, h]
    | i + 1, h => simp at h; simpa using lsSub_at (a := r) (b := r2) hs.2 i v h
  | none :: _, [], hs, _, _, _ => hs.elim
  | some _ :: _, [], hs, _, _, _ => hs.elim
theorem g_fg {K : mbK} {pc : Nat} {ls ls' : List (Option gV)} {st : List gV} {sh : mbSh} {ct : mbCt} (h : lsSub ls' ls) (k : G K pc ls' st sh ct) : G K pc ls st sh ct := g_ls (lsSub_at h) k
theorem and01 {a b : Int} (ha : a = 0 ∨ a = 1) (hb : b = 0 ∨ b = 1) : andI a b = b01 (a = 1 ∧ b = 1) ∧ orI a b = b01 (a = 1 ∨ b = 1) := by
  rcases ha with rfl | rfl <;> rcases hb with rfl | rfl <;> decide +kernel
theorem eqBut.wr {ct c : mbCt} {A : List Int} {a k v : Int} (h : eqBut A ct c) (ha : a ∈ A) : eqBut A ct (wr c a k v) := by
  intro x hx
  rw [wr_other c a k v x (fun e => hx (e ▸ ha))]
  exact h x hx
theorem eqBut.wa {ct c : mbCt} {A : List Int} {a : Int} {f : Int → Int} (h : eqBut A ct c) (ha : a ∈ A) : eqBut A ct (wa c a f) := by
  intro x hx
  rw [wa_other c a f x (fun e => hx (e ▸ ha))]
  exact h x hx
theorem eqBut.rf {ct : mbCt} {A : List Int} : eqBut A ct ct := fun _ _ => rfl
theorem eqBut.tr {A : List Int} {a b c : mbCt} (h1 : eqBut A a b) (h2 : eqBut A b c) : eqBut A a c := fun x hx => (h2 x hx).trans (h1 x hx)
theorem eqBut.mono {A B : List Int} {a b : mbCt} (h : eqBut A a b) (hAB : ∀ x ∈ A, x ∈ B) : eqBut B a b := fun x hx => h x (fun z => hx (hAB x z))
theorem cl6_id {v : Int} (h1 : -1000000 ≤ v) (h2 : v ≤ 1000000) : cl6 v = v := by
  unfold cl6
  rw [if_neg (by omega), if_neg (by omega)]
theorem opV_7 (a b : Int) : opV (-7) a b = cl6 (a + b) := by unfold opV; rw [if_pos rfl]
theorem opV_8 (a b : Int) : opV (-8) a b = cl6 (a - b) := by unfold opV; rw [if_neg (by decide), if_pos rfl]
theorem opV_9 (a b : Int) : opV (-9) a b = cl6 (a * b) := by unfold opV; rw [if_neg (by decide), if_neg (by decide), if_pos rfl]
theorem opV_10 (a b : Int) : opV (-10) a b = b01 (a = b) := by unfold opV; rw [if_neg (by decide), if_neg (by decide), if_neg (by decide), if_pos rfl]
theorem opV_11 (a b : Int) : opV (-11) a b = b01 (a < b) := by unfold opV; rw [if_neg (by decide), if_neg (by decide), if_neg (by decide), if_neg (by decide), if_pos rfl]
theorem opV_12 (a b : Int) : opV (-12) a b = b01 (b < a) := by unfold opV; rw [if_neg (by decide), if_neg (by decide), if_neg (by decide), if_neg (by decide), if_neg (by decide), if_pos rfl]
theorem opV_14 (a b : Int) : opV (-14) a b = b01 (a = 1 ∧ b = 1) := by unfold opV; rw [if_neg (by decide), if_neg (by decide), if_neg (by decide), if_neg (by decide), if_neg (by decide), if_neg (by decide), if_pos rfl]
theorem opV_15 (a b : Int) : opV (-15) a b = b01 (a = 1 ∨ b = 1) := by unfold opV; rw [if_neg (by decide), if_neg (by decide), if_neg (by decide), if_neg (by decide), if_neg (by decide), if_neg (by decide), if_neg (by decide)]
theorem dX7_holds_0 : decode cX7_holds 0 = .ok (.iconst 0, 1) := by decide +kernel
theorem dX7_holds_1 : decode cX7_holds 1 = .ok (.istore 4, 2) := by decide +kernel
theorem dX7_holds_3 : decode cX7_holds 3 = .ok (.iload_n 2, 1) := by decide +kernel
theorem dX7_holds_4 : decode cX7_holds 4 = .ok (.istore 5, 2) := by decide +kernel
theorem dX7_holds_6 : decode cX7_holds 6 = .ok (.iload 5, 2) := by decide +kernel
theorem dX7_holds_8 : decode cX7_holds 8 = .ok (.iload_n 3, 1) := by decide +kernel
theorem dX7_holds_9 : decode cX7_holds 9 = .ok (.if_icmp .ge 321, 3) := by decide +kernel
theorem dX7_holds_12 : decode cX7_holds 12 = .ok (.aload_n 1, 1) := by decide +kernel
theorem dX7_holds_13 : decode cX7_holds 13 = .ok (.getfield 47, 3) := by decide +kernel
theorem dX7_holds_16 : decode cX7_holds 16 = .ok (.iload 5, 2) := by decide +kernel
theorem dX7_holds_18 : decode cX7_holds 18 = .ok (.saload, 1) := by decide +kernel
theorem dX7_holds_19 : decode cX7_holds 19 = .ok (.istore 6, 2) := by decide +kernel
theorem dX7_holds_21 : decode cX7_holds 21 = .ok (.iload 6, 2) := by decide +kernel
theorem dX7_holds_23 : decode cX7_holds 23 = .ok (.bipush (-6), 2) := by decide +kernel
theorem dX7_holds_25 : decode cX7_holds 25 = .ok (.if_icmp .lt 42, 3) := by decide +kernel
theorem dX7_holds_28 : decode cX7_holds 28 = .ok (.iload 4, 2) := by decide +kernel
theorem dX7_holds_30 : decode cX7_holds 30 = .ok (.bipush 64, 2) := by decide +kernel
theorem dX7_holds_32 : decode cX7_holds 32 = .ok (.if_icmp .ge 35, 3) := by decide +kernel
theorem dX7_holds_35 : decode cX7_holds 35 = .ok (.aload_n 0, 1) := by decide +kernel
theorem dX7_holds_36 : decode cX7_holds 36 = .ok (.getfield 9, 3) := by decide +kernel
theorem dX7_holds_39 : decode cX7_holds 39 = .ok (.iload 4, 2) := by decide +kernel
theorem dX7_holds_41 : decode cX7_holds 41 = .ok (.iload 6, 2) := by decide +kernel
theorem dX7_holds_43 : decode cX7_holds 43 = .ok (.ifCond .lt 8, 3) := by decide +kernel
theorem dX7_holds_46 : decode cX7_holds 46 = .ok (.iload 6, 2) := by decide +kernel
theorem dX7_holds_48 : decode cX7_holds 48 = .ok (.goto 12, 3) := by decide +kernel
theorem dX7_holds_51 : decode cX7_holds 51 = .ok (.aload_n 0, 1) := by decide +kernel
theorem dX7_holds_52 : decode cX7_holds 52 = .ok (.getfield 15, 3) := by decide +kernel
theorem dX7_holds_55 : decode cX7_holds 55 = .ok (.iconst (-1), 1) := by decide +kernel
theorem dX7_holds_56 : decode cX7_holds 56 = .ok (.iload 6, 2) := by decide +kernel
theorem dX7_holds_58 : decode cX7_holds 58 = .ok (.isub, 1) := by decide +kernel
theorem dX7_holds_59 : decode cX7_holds 59 = .ok (.iaload, 1) := by decide +kernel
theorem dX7_holds_60 : decode cX7_holds 60 = .ok (.iastore, 1) := by decide +kernel
theorem dX7_holds_61 : decode cX7_holds 61 = .ok (.iinc 4 1, 3) := by decide +kernel
theorem dX7_holds_64 : decode cX7_holds 64 = .ok (.goto 260, 3) := by decide +kernel
theorem dX7_holds_67 : decode cX7_holds 67 = .ok (.iload 6, 2) := by decide +kernel
theorem dX7_holds_69 : decode cX7_holds 69 = .ok (.bipush (-13), 2) := by decide +kernel
theorem dX7_holds_71 : decode cX7_holds 71 = .ok (.if_icmp .ne 32, 3) := by decide +kernel
theorem dX7_holds_74 : decode cX7_holds 74 = .ok (.iload 4, 2) := by decide +kernel
theorem dX7_holds_76 : decode cX7_holds 76 = .ok (.iconst 1, 1) := by decide +kernel
theorem dX7_holds_77 : decode cX7_holds 77 = .ok (.if_icmp .lt 26, 3) := by decide +kernel
theorem dX7_holds_80 : decode cX7_holds 80 = .ok (.aload_n 0, 1) := by decide +kernel
theorem dX7_holds_81 : decode cX7_holds 81 = .ok (.getfield 9, 3) := by decide +kernel
theorem dX7_holds_84 : decode cX7_holds 84 = .ok (.iload 4, 2) := by decide +kernel
theorem dX7_holds_86 : decode cX7_holds 86 = .ok (.iconst 1, 1) := by decide +kernel
theorem dX7_holds_87 : decode cX7_holds 87 = .ok (.isub, 1) := by decide +kernel
theorem dX7_holds_88 : decode cX7_holds 88 = .ok (.iconst 1, 1) := by decide +kernel
theorem dX7_holds_89 : decode cX7_holds 89 = .ok (.aload_n 0, 1) := by decide +kernel
theorem dX7_holds_90 : decode cX7_holds 90 = .ok (.getfield 9, 3) := by decide +kernel
theorem dX7_holds_93 : decode cX7_holds 93 = .ok (.iload 4, 2) := by decide +kernel
theorem dX7_holds_95 : decode cX7_holds 95 = .ok (.iconst 1, 1) := by decide +kernel
theorem dX7_holds_96 : decode cX7_holds 96 = .ok (.isub, 1) := by decide +kernel
theorem dX7_holds_97 : decode cX7_holds 97 = .ok (.iaload, 1) := by decide +kernel
theorem dX7_holds_98 : decode cX7_holds 98 = .ok (.isub, 1) := by decide +kernel
theorem dX7_holds_99 : decode cX7_holds 99 = .ok (.iastore, 1) := by decide +kernel
theorem dX7_holds_100 : decode cX7_holds 100 = .ok (.goto 224, 3) := by decide +kernel
theorem dX7_holds_103 : decode cX7_holds 103 = .ok (.iload 4, 2) := by decide +kernel
theorem dX7_holds_105 : decode cX7_holds 105 = .ok (.iconst 2, 1) := by decide +kernel
theorem dX7_holds_106 : decode cX7_holds 106 = .ok (.if_icmp .lt 218, 3) := by decide +kernel
theorem dX7_holds_109 : decode cX7_holds 109 = .ok (.iinc 4 (-1), 3) := by decide +kernel
theorem dX7_holds_112 : decode cX7_holds 112 = .ok (.aload_n 0, 1) := by decide +kernel
theorem dX7_holds_113 : decode cX7_holds 113 = .ok (.getfield 9, 3) := by decide +kernel
theorem dX7_holds_116 : decode cX7_holds 116 = .ok (.iload 4, 2) := by decide +kernel
theorem dX7_holds_118 : decode cX7_holds 118 = .ok (.iconst 1, 1) := by decide +kernel
theorem dX7_holds_119 : decode cX7_holds 119 = .ok (.isub, 1) := by decide +kernel
theorem dX7_holds_120 : decode cX7_holds 120 = .ok (.iaload, 1) := by decide +kernel
theorem dX7_holds_121 : decode cX7_holds 121 = .ok (.istore 7, 2) := by decide +kernel
theorem dX7_holds_123 : decode cX7_holds 123 = .ok (.aload_n 0, 1) := by decide +kernel
theorem dX7_holds_124 : decode cX7_holds 124 = .ok (.getfield 9, 3) := by decide +kernel
theorem dX7_holds_127 : decode cX7_holds 127 = .ok (.iload 4, 2) := by decide +kernel
theorem dX7_holds_129 : decode cX7_holds 129 = .ok (.iaload, 1) := by decide +kernel
theorem dX7_holds_130 : decode cX7_holds 130 = .ok (.istore 8, 2) := by decide +kernel
theorem dX7_holds_132 : decode cX7_holds 132 = .ok (.iload 6, 2) := by decide +kernel
theorem dX7_holds_134 : decode cX7_holds 134 = .ok (.tableswitch 142 (-14) (-7) #[131, 142, 114, 97, 80, 68, 57, 46], 46) := by decide +kernel
theorem dX7_holds_180 : decode cX7_holds 180 = .ok (.iload 7, 2) := by decide +kernel
theorem dX7_holds_182 : decode cX7_holds 182 = .ok (.iload 8, 2) := by decide +kernel
theorem dX7_holds_184 : decode cX7_holds 184 = .ok (.iadd, 1) := by decide +kernel
theorem dX7_holds_185 : decode cX7_holds 185 = .ok (.i2l, 1) := by decide +kernel
theorem dX7_holds_186 : decode cX7_holds 186 = .ok (.lstore 9, 2) := by decide +kernel
theorem dX7_holds_188 : decode cX7_holds 188 = .ok (.goto 96, 3) := by decide +kernel
theorem dX7_holds_191 : decode cX7_holds 191 = .ok (.iload 7, 2) := by decide +kernel
theorem dX7_holds_193 : decode cX7_holds 193 = .ok (.iload 8, 2) := by decide +kernel
theorem dX7_holds_195 : decode cX7_holds 195 = .ok (.isub, 1) := by decide +kernel
theorem dX7_holds_196 : decode cX7_holds 196 = .ok (.i2l, 1) := by decide +kernel
theorem dX7_holds_197 : decode cX7_holds 197 = .ok (.lstore 9, 2) := by decide +kernel
theorem dX7_holds_199 : decode cX7_holds 199 = .ok (.goto 85, 3) := by decide +kernel
theorem dX7_holds_202 : decode cX7_holds 202 = .ok (.iload 7, 2) := by decide +kernel
theorem dX7_holds_204 : decode cX7_holds 204 = .ok (.i2l, 1) := by decide +kernel
theorem dX7_holds_205 : decode cX7_holds 205 = .ok (.iload 8, 2) := by decide +kernel
theorem dX7_holds_207 : decode cX7_holds 207 = .ok (.i2l, 1) := by decide +kernel
theorem dX7_holds_208 : decode cX7_holds 208 = .ok (.lmul, 1) := by decide +kernel
theorem dX7_holds_209 : decode cX7_holds 209 = .ok (.lstore 9, 2) := by decide +kernel
theorem dX7_holds_211 : decode cX7_holds 211 = .ok (.goto 73, 3) := by decide +kernel
theorem dX7_holds_214 : decode cX7_holds 214 = .ok (.iload 7, 2) := by decide +kernel
theorem dX7_holds_216 : decode cX7_holds 216 = .ok (.iload 8, 2) := by decide +kernel
theorem dX7_holds_218 : decode cX7_holds 218 = .ok (.if_icmp .ne 7, 3) := by decide +kernel
theorem dX7_holds_221 : decode cX7_holds 221 = .ok (.lconst 1, 1) := by decide +kernel
theorem dX7_holds_222 : decode cX7_holds 222 = .ok (.goto 4, 3) := by decide +kernel
theorem dX7_holds_225 : decode cX7_holds 225 = .ok (.lconst 0, 1) := by decide +kernel
theorem dX7_holds_226 : decode cX7_holds 226 = .ok (.lstore 9, 2) := by decide +kernel
theorem dX7_holds_228 : decode cX7_holds 228 = .ok (.goto 56, 3) := by decide +kernel
theorem dX7_holds_231 : decode cX7_holds 231 = .ok (.iload 7, 2) := by decide +kernel
theorem dX7_holds_233 : decode cX7_holds 233 = .ok (.iload 8, 2) := by decide +kernel
theorem dX7_holds_235 : decode cX7_holds 235 = .ok (.if_icmp .ge 7, 3) := by decide +kernel
theorem dX7_holds_238 : decode cX7_holds 238 = .ok (.lconst 1, 1) := by decide +kernel
theorem dX7_holds_239 : decode cX7_holds 239 = .ok (.goto 4, 3) := by decide +kernel
theorem dX7_holds_242 : decode cX7_holds 242 = .ok (.lconst 0, 1) := by decide +kernel
theorem dX7_holds_243 : decode cX7_holds 243 = .ok (.lstore 9, 2) := by decide +kernel
theorem dX7_holds_245 : decode cX7_holds 245 = .ok (.goto 39, 3) := by decide +kernel
theorem dX7_holds_248 : decode cX7_holds 248 = .ok (.iload 7, 2) := by decide +kernel
theorem dX7_holds_250 : decode cX7_holds 250 = .ok (.iload 8, 2) := by decide +kernel
theorem dX7_holds_252 : decode cX7_holds 252 = .ok (.if_icmp .le 7, 3) := by decide +kernel
theorem dX7_holds_255 : decode cX7_holds 255 = .ok (.lconst 1, 1) := by decide +kernel
theorem dX7_holds_256 : decode cX7_holds 256 = .ok (.goto 4, 3) := by decide +kernel
theorem dX7_holds_259 : decode cX7_holds 259 = .ok (.lconst 0, 1) := by decide +kernel
theorem dX7_holds_260 : decode cX7_holds 260 = .ok (.lstore 9, 2) := by decide +kernel
theorem dX7_holds_262 : decode cX7_holds 262 = .ok (.goto 22, 3) := by decide +kernel
theorem dX7_holds_265 : decode cX7_holds 265 = .ok (.iload 7, 2) := by decide +kernel
theorem dX7_holds_267 : decode cX7_holds 267 = .ok (.iload 8, 2) := by decide +kernel
theorem dX7_holds_269 : decode cX7_holds 269 = .ok (.iand, 1) := by decide +kernel
theorem dX7_holds_270 : decode cX7_holds 270 = .ok (.i2l, 1) := by decide +kernel
theorem dX7_holds_271 : decode cX7_holds 271 = .ok (.lstore 9, 2) := by decide +kernel
theorem dX7_holds_273 : decode cX7_holds 273 = .ok (.goto 11, 3) := by decide +kernel
theorem dX7_holds_276 : decode cX7_holds 276 = .ok (.iload 7, 2) := by decide +kernel
theorem dX7_holds_278 : decode cX7_holds 278 = .ok (.iload 8, 2) := by decide +kernel
theorem dX7_holds_280 : decode cX7_holds 280 = .ok (.ior, 1) := by decide +kernel
theorem dX7_holds_281 : decode cX7_holds 281 = .ok (.i2l, 1) := by decide +kernel
theorem dX7_holds_282 : decode cX7_holds 282 = .ok (.lstore 9, 2) := by decide +kernel
theorem dX7_holds_284 : decode cX7_holds 284 = .ok (.aload_n 0, 1) := by decide +kernel
theorem dX7_holds_285 : decode cX7_holds 285 = .ok (.getfield 9, 3) := by decide +kernel
theorem dX7_holds_288 : decode cX7_holds 288 = .ok (.iload 4, 2) := by decide +kernel
theorem dX7_holds_290 : decode cX7_holds 290 = .ok (.iconst 1, 1) := by decide +kernel
theorem dX7_holds_291 : decode cX7_holds 291 = .ok (.isub, 1) := by decide +kernel
theorem dX7_holds_292 : decode cX7_holds 292 = .ok (.lload 9, 2) := by decide +kernel
theorem dX7_holds_294 : decode cX7_holds 294 = .ok (.ldc2_w 51, 3) := by decide +kernel
theorem dX7_holds_297 : decode cX7_holds 297 = .ok (.lcmp, 1) := by decide +kernel
theorem dX7_holds_298 : decode cX7_holds 298 = .ok (.ifCond .le 8, 3) := by decide +kernel
theorem dX7_holds_301 : decode cX7_holds 301 = .ok (.ldc 53, 2) := by decide +kernel
theorem dX7_holds_303 : decode cX7_holds 303 = .ok (.goto 20, 3) := by decide +kernel
theorem dX7_holds_306 : decode cX7_holds 306 = .ok (.lload 9, 2) := by decide +kernel
theorem dX7_holds_308 : decode cX7_holds 308 = .ok (.ldc2_w 54, 3) := by decide +kernel
theorem dX7_holds_311 : decode cX7_holds 311 = .ok (.lcmp, 1) := by decide +kernel
theorem dX7_holds_312 : decode cX7_holds 312 = .ok (.ifCond .ge 8, 3) := by decide +kernel
theorem dX7_holds_315 : decode cX7_holds 315 = .ok (.ldc 56, 2) := by decide +kernel
theorem dX7_holds_317 : decode cX7_holds 317 = .ok (.goto 6, 3) := by decide +kernel
theorem dX7_holds_320 : decode cX7_holds 320 = .ok (.lload 9, 2) := by decide +kernel
theorem dX7_holds_322 : decode cX7_holds 322 = .ok (.l2i, 1) := by decide +kernel
theorem dX7_holds_323 : decode cX7_holds 323 = .ok (.iastore, 1) := by decide +kernel
theorem dX7_holds_324 : decode cX7_holds 324 = .ok (.iinc 5 1, 3) := by decide +kernel
theorem dX7_holds_327 : decode cX7_holds 327 = .ok (.goto (-321), 3) := by decide +kernel
theorem dX7_holds_330 : decode cX7_holds 330 = .ok (.aload_n 0, 1) := by decide +kernel
theorem dX7_holds_331 : decode cX7_holds 331 = .ok (.getfield 9, 3) := by decide +kernel
theorem dX7_holds_334 : decode cX7_holds 334 = .ok (.iconst 0, 1) := by decide +kernel
theorem dX7_holds_335 : decode cX7_holds 335 = .ok (.iaload, 1) := by decide +kernel
theorem dX7_holds_336 : decode cX7_holds 336 = .ok (.ifCond .eq 7, 3) := by decide +kernel
theorem dX7_holds_339 : decode cX7_holds 339 = .ok (.iconst 1, 1) := by decide +kernel
theorem dX7_holds_340 : decode cX7_holds 340 = .ok (.goto 4, 3) := by decide +kernel
theorem dX7_holds_343 : decode cX7_holds 343 = .ok (.iconst 0, 1) := by decide +kernel
theorem dX7_holds_344 : decode cX7_holds 344 = .ok (.ireturn, 1) := by decide +kernel
theorem dX7_wouldSay_0 : decode cX7_wouldSay 0 = .ok (.aload_n 1, 1) := by decide +kernel
theorem dX7_wouldSay_1 : decode cX7_wouldSay 1 = .ok (.getfield 18, 3) := by decide +kernel
theorem dX7_wouldSay_4 : decode cX7_wouldSay 4 = .ok (.aload_n 1, 1) := by decide +kernel
theorem dX7_wouldSay_5 : decode cX7_wouldSay 5 = .ok (.getfield 24, 3) := by decide +kernel
theorem dX7_wouldSay_8 : decode cX7_wouldSay 8 = .ok (.if_icmp .ne 5, 3) := by decide +kernel
theorem dX7_wouldSay_11 : decode cX7_wouldSay 11 = .ok (.iconst 1, 1) := by decide +kernel
theorem dX7_wouldSay_12 : decode cX7_wouldSay 12 = .ok (.ireturn, 1) := by decide +kernel
theorem dX7_wouldSay_13 : decode cX7_wouldSay 13 = .ok (.aload_n 0, 1) := by decide +kernel
theorem dX7_wouldSay_14 : decode cX7_wouldSay 14 = .ok (.getfield 15, 3) := by decide +kernel
theorem dX7_wouldSay_17 : decode cX7_wouldSay 17 = .ok (.iconst 0, 1) := by decide +kernel
theorem dX7_wouldSay_18 : decode cX7_wouldSay 18 = .ok (.iload_n 2, 1) := by decide +kernel
theorem dX7_wouldSay_19 : decode cX7_wouldSay 19 = .ok (.invokestatic 27, 3) := by decide +kernel
theorem dX7_wouldSay_22 : decode cX7_wouldSay 22 = .ok (.iastore, 1) := by decide +kernel
theorem dX7_wouldSay_23 : decode cX7_wouldSay 23 = .ok (.aload_n 0, 1) := by decide +kernel
theorem dX7_wouldSay_24 : decode cX7_wouldSay 24 = .ok (.getfield 15, 3) := by decide +kernel
theorem dX7_wouldSay_27 : decode cX7_wouldSay 27 = .ok (.iconst 1, 1) := by decide +kernel
theorem dX7_wouldSay_28 : decode cX7_wouldSay 28 = .ok (.iload_n 2, 1) := by decide +kernel
theorem dX7_wouldSay_29 : decode cX7_wouldSay 29 = .ok (.invokestatic 31, 3) := by decide +kernel
theorem dX7_wouldSay_32 : decode cX7_wouldSay 32 = .ok (.iastore, 1) := by decide +kernel
theorem dX7_wouldSay_33 : decode cX7_wouldSay 33 = .ok (.aload_n 0, 1) := by decide +kernel
theorem dX7_wouldSay_34 : decode cX7_wouldSay 34 = .ok (.getfield 15, 3) := by decide +kernel
theorem dX7_wouldSay_37 : decode cX7_wouldSay 37 = .ok (.iconst 2, 1) := by decide +kernel
theorem dX7_wouldSay_38 : decode cX7_wouldSay 38 = .ok (.iload_n 2, 1) := by decide +kernel
theorem dX7_wouldSay_39 : decode cX7_wouldSay 39 = .ok (.invokestatic 34, 3) := by decide +kernel
theorem dX7_wouldSay_42 : decode cX7_wouldSay 42 = .ok (.iastore, 1) := by decide +kernel
theorem dX7_wouldSay_43 : decode cX7_wouldSay 43 = .ok (.aload_n 0, 1) := by decide +kernel
theorem dX7_wouldSay_44 : decode cX7_wouldSay 44 = .ok (.getfield 15, 3) := by decide +kernel
theorem dX7_wouldSay_47 : decode cX7_wouldSay 47 = .ok (.iconst 3, 1) := by decide +kernel
theorem dX7_wouldSay_48 : decode cX7_wouldSay 48 = .ok (.iload_n 3, 1) := by decide +kernel
theorem dX7_wouldSay_49 : decode cX7_wouldSay 49 = .ok (.iastore, 1) := by decide +kernel
theorem dX7_wouldSay_50 : decode cX7_wouldSay 50 = .ok (.aload_n 0, 1) := by decide +kernel
theorem dX7_wouldSay_51 : decode cX7_wouldSay 51 = .ok (.getfield 15, 3) := by decide +kernel
theorem dX7_wouldSay_54 : decode cX7_wouldSay 54 = .ok (.iconst 4, 1) := by decide +kernel
theorem dX7_wouldSay_55 : decode cX7_wouldSay 55 = .ok (.iload 4, 2) := by decide +kernel
theorem dX7_wouldSay_57 : decode cX7_wouldSay 57 = .ok (.iastore, 1) := by decide +kernel
theorem dX7_wouldSay_58 : decode cX7_wouldSay 58 = .ok (.aload_n 0, 1) := by decide +kernel
theorem dX7_wouldSay_59 : decode cX7_wouldSay 59 = .ok (.getfield 15, 3) := by decide +kernel
theorem dX7_wouldSay_62 : decode cX7_wouldSay 62 = .ok (.iconst 5, 1) := by decide +kernel
theorem dX7_wouldSay_63 : decode cX7_wouldSay 63 = .ok (.iload 5, 2) := by decide +kernel
theorem dX7_wouldSay_65 : decode cX7_wouldSay 65 = .ok (.iastore, 1) := by decide +kernel
theorem dX7_wouldSay_66 : decode cX7_wouldSay 66 = .ok (.aload_n 0, 1) := by decide +kernel
theorem dX7_wouldSay_67 : decode cX7_wouldSay 67 = .ok (.aload_n 1, 1) := by decide +kernel
theorem dX7_wouldSay_68 : decode cX7_wouldSay 68 = .ok (.aload_n 1, 1) := by decide +kernel
theorem dX7_wouldSay_69 : decode cX7_wouldSay 69 = .ok (.getfield 18, 3) := by decide +kernel
theorem dX7_wouldSay_72 : decode cX7_wouldSay 72 = .ok (.aload_n 1, 1) := by decide +kernel
theorem dX7_wouldSay_73 : decode cX7_wouldSay 73 = .ok (.getfield 24, 3) := by decide +kernel
theorem dX7_wouldSay_76 : decode cX7_wouldSay 76 = .ok (.invokevirtual 37, 3) := by decide +kernel
theorem dX7_wouldSay_79 : decode cX7_wouldSay 79 = .ok (.ireturn, 1) := by decide +kernel
theorem dX7_closesAt_0 : decode cX7_closesAt 0 = .ok (.aload_n 1, 1) := by decide +kernel
theorem dX7_closesAt_1 : decode cX7_closesAt 1 = .ok (.getfield 41, 3) := by decide +kernel
theorem dX7_closesAt_4 : decode cX7_closesAt 4 = .ok (.aload_n 1, 1) := by decide +kernel
theorem dX7_closesAt_5 : decode cX7_closesAt 5 = .ok (.getfield 44, 3) := by decide +kernel
theorem dX7_closesAt_8 : decode cX7_closesAt 8 = .ok (.if_icmp .ne 16, 3) := by decide +kernel
theorem dX7_closesAt_11 : decode cX7_closesAt 11 = .ok (.iload_n 2, 1) := by decide +kernel
theorem dX7_closesAt_12 : decode cX7_closesAt 12 = .ok (.invokestatic 31, 3) := by decide +kernel
theorem dX7_closesAt_15 : decode cX7_closesAt 15 = .ok (.ifCond .ne 7, 3) := by decide +kernel
theorem dX7_closesAt_18 : decode cX7_closesAt 18 = .ok (.iconst 1, 1) := by decide +kernel
theorem dX7_closesAt_19 : decode cX7_closesAt 19 = .ok (.goto 4, 3) := by decide +kernel
theorem dX7_closesAt_22 : decode cX7_closesAt 22 = .ok (.iconst 0, 1) := by decide +kernel
theorem dX7_closesAt_23 : decode cX7_closesAt 23 = .ok (.ireturn, 1) := by decide +kernel
theorem dX7_closesAt_24 : decode cX7_closesAt 24 = .ok (.aload_n 0, 1) := by decide +kernel
theorem dX7_closesAt_25 : decode cX7_closesAt 25 = .ok (.getfield 15, 3) := by decide +kernel
theorem dX7_closesAt_28 : decode cX7_closesAt 28 = .ok (.iconst 0, 1) := by decide +kernel
theorem dX7_closesAt_29 : decode cX7_closesAt 29 = .ok (.iload_n 2, 1) := by decide +kernel
theorem dX7_closesAt_30 : decode cX7_closesAt 30 = .ok (.invokestatic 27, 3) := by decide +kernel
theorem dX7_closesAt_33 : decode cX7_closesAt 33 = .ok (.iastore, 1) := by decide +kernel
theorem dX7_closesAt_34 : decode cX7_closesAt 34 = .ok (.aload_n 0, 1) := by decide +kernel
theorem dX7_closesAt_35 : decode cX7_closesAt 35 = .ok (.getfield 15, 3) := by decide +kernel
theorem dX7_closesAt_38 : decode cX7_closesAt 38 = .ok (.iconst 1, 1) := by decide +kernel
theorem dX7_closesAt_39 : decode cX7_closesAt 39 = .ok (.iload_n 2, 1) := by decide +kernel
theorem dX7_closesAt_40 : decode cX7_closesAt 40 = .ok (.invokestatic 31, 3) := by decide +kernel
theorem dX7_closesAt_43 : decode cX7_closesAt 43 = .ok (.iastore, 1) := by decide +kernel
theorem dX7_closesAt_44 : decode cX7_closesAt 44 = .ok (.aload_n 0, 1) := by decide +kernel
theorem dX7_closesAt_45 : decode cX7_closesAt 45 = .ok (.getfield 15, 3) := by decide +kernel
theorem dX7_closesAt_48 : decode cX7_closesAt 48 = .ok (.iconst 2, 1) := by decide +kernel
theorem dX7_closesAt_49 : decode cX7_closesAt 49 = .ok (.iload_n 2, 1) := by decide +kernel
theorem dX7_closesAt_50 : decode cX7_closesAt 50 = .ok (.invokestatic 34, 3) := by decide +kernel
theorem dX7_closesAt_53 : decode cX7_closesAt 53 = .ok (.iastore, 1) := by decide +kernel
theorem dX7_closesAt_54 : decode cX7_closesAt 54 = .ok (.aload_n 0, 1) := by decide +kernel
theorem dX7_closesAt_55 : decode cX7_closesAt 55 = .ok (.aload_n 1, 1) := by decide +kernel
theorem dX7_closesAt_56 : decode cX7_closesAt 56 = .ok (.aload_n 1, 1) := by decide +kernel
theorem dX7_closesAt_57 : decode cX7_closesAt 57 = .ok (.getfield 41, 3) := by decide +kernel
theorem dX7_closesAt_60 : decode cX7_closesAt 60 = .ok (.aload_n 1, 1) := by decide +kernel
theorem dX7_closesAt_61 : decode cX7_closesAt 61 = .ok (.getfield 44, 3) := by decide +kernel
theorem dX7_closesAt_64 : decode cX7_closesAt 64 = .ok (.invokevirtual 37, 3) := by decide +kernel
theorem dX7_closesAt_67 : decode cX7_closesAt 67 = .ok (.ireturn, 1) := by decide +kernel
theorem dX7_lastInLaw_0 : decode cX7_lastInLaw 0 = .ok (.iload_n 0, 1) := by decide +kernel
theorem dX7_lastInLaw_1 : decode cX7_lastInLaw 1 = .ok (.bipush 7, 2) := by decide +kernel
theorem dX7_lastInLaw_3 : decode cX7_lastInLaw 3 = .ok (.irem, 1) := by decide +kernel
theorem dX7_lastInLaw_4 : decode cX7_lastInLaw 4 = .ok (.istore_n 1, 1) := by decide +kernel
theorem dX7_lastInLaw_5 : decode cX7_lastInLaw 5 = .ok (.iload_n 1, 1) := by decide +kernel
theorem dX7_lastInLaw_6 : decode cX7_lastInLaw 6 = .ok (.bipush 6, 2) := by decide +kernel
theorem dX7_lastInLaw_8 : decode cX7_lastInLaw 8 = .ok (.if_icmp .ne 8, 3) := by decide +kernel
theorem dX7_lastInLaw_11 : decode cX7_lastInLaw 11 = .ok (.bipush 9, 2) := by decide +kernel
theorem dX7_lastInLaw_13 : decode cX7_lastInLaw 13 = .ok (.goto 4, 3) := by decide +kernel
theorem dX7_lastInLaw_16 : decode cX7_lastInLaw 16 = .ok (.iload_n 1, 1) := by decide +kernel
theorem dX7_lastInLaw_17 : decode cX7_lastInLaw 17 = .ok (.ireturn, 1) := by decide +kernel
section
variable (d : Nat) (sh : mbSh) (ct : mbCt)
set_option maxRecDepth 4000 in
theorem c_holds {b fr en : Int} {n : Nat} (S : SH sh) (L : LK ct) (hb : bkAt sh ct b) (hn : en = fr + n) (h0 : 0 ≤ fr) (h1 : en ≤ 900) (wf : wfL (ct (b + 4)) fr n) (ha : askOk (ct 69)) : Mt YX7_holds d [.inr (.inr 67), .inr (.inr b), .inl fr, .inl en] sh sh ct (pI fun r c => r = b01 (semL (ct 69) (codeL (ct (b + 4)) fr n) [] = [1]) ∧ eqBut [68] ct c) := by
  obtain ⟨b1, b2, b3, b4, b5, b6, b7, b8, b9⟩ := hb
  have n1 : b ≠ 68 := shA_ne b1 (S.at 68 rfl) (by decide)
  have n2 : b + 4 ≠ 68 := shA_ne b5 (S.at 68 rfl) (by decide)
  generalize hT : semL (ct 69) (codeL (ct (b + 4)) fr n) [] = T
  have s68 : shA sh 68 = some (20, 64) := S.at _ rfl
  have s69 : shA sh 69 = some (20, 6) := S.at _ rfl
  have loop : ∀ (k : Nat) (i : Int) (ts : List Bool) (st : List Int) (c : mbCt), i + k = en → 0 ≤ i → typL (codeL (ct (b + 4)) i k) ts = some [true] → semL (ct 69) (codeL (ct (b + 4)) i k) st = T → okT ts st → stkAt (c 68) st → ts.length ≤ 64 → eqBut [68] ct c → G (mkK YX7_holds d sh sh (pI fun r c => r = b01 (T = [1]) ∧ eqBut [68] ct c)) 6 [some (.inr (.inr 67)), some (.inr (.inr b)), some (.inl fr), some (.inl en), some (.inl st.length), some (.inl i), none, none, none, none, none] [] sh c := by
    intro k
    induction k with
    | zero =>
      intro i ts st c hi i0 hty hse hok hst hle hc
      have l0 : c 67 0 = 68 := by rw [hc 67 (by decide)]; exact L.at _ _ rfl
      have hts : ts = [true] := Option.some.inj hty
      subst hts
      have hv : ∃ v, st = [v] ∧ (v = 0 ∨ v = 1) := by
        match st, hok with
        | [v], hok => exact ⟨v, rfl, hok.1⟩
        | [], hok => exact hok.elim
        | _ :: _ :: _, hok => exact hok.2.elim
      obtain ⟨v, rfl, hv01⟩ := hv
      have hc0 : c 68 0 = v := hst.1
      have hT' : T = [v] := hse.symm
      refine g_iload (q := 8) dX7_holds_6 rfl rfl ?_
      refine g_iload_n (q := 9) dX7_holds_8 rfl rfl ?_
      refine g_icmp_ge (q := 12) (tg := 330) dX7_holds_9 (by decide) rfl (fun c_9 => ?_) (fun c_9 => ?_)
      · refine g_aload_n (q := 331) dX7_holds_330 rfl rfl ?_
        refine g_getA (q := 334) (kI := 0) fX7_9 (by first | assumption | exact S.at _ rfl) dX7_holds_331 rfl rfl (by first | assumption | exact L.at _ _ rfl | exact LK.at (by assumption) _ _ rfl | ((repeat first | rewrite [wr_na (by decide)] | rewrite [wr_nk (by decide)] | rewrite [wa_na (by decide)]); first | assumption | exact LK.at (by assumption) _ _ rfl) | exact rfl) ?_
        refine g_iconst (q := 335) dX7_holds_334 rfl ?_
        refine g_iaload (q := 336) (by first | assumption | exact S.at _ rfl) (by omega) (by omega) (by omega) dX7_holds_335 rfl ?_
        refine g_if_eq (q := 339) (tg := 343) dX7_holds_336 (by decide) rfl (fun c_336 => ?_) (fun c_336 => ?_)
        · refine g_iconst (q := 344) dX7_holds_343 rfl ?_
          refine g_zreturn dX7_holds_344 rfl (by decide +kernel) ?_
          refine ⟨_, rfl, ?_, hc⟩
          rw [hT']
          apply b01_f
          rw [hc0] at c_336
          intro h
          have : v = 1 := by simpa using h
          subst this
          exact absurd c_336 (by decide)
        · refine g_iconst (q := 340) dX7_holds_339 rfl ?_
          refine g_goto (q := 344) dX7_holds_340 (by decide) ?_
          refine g_zreturn dX7_holds_344 rfl (by decide +kernel) ?_
          refine ⟨_, rfl, ?_, hc⟩
          rw [hT']
          apply b01_t
          rw [hc0] at c_336
          rcases hv01 with rfl | rfl
          · exact absurd rfl c_336
          · rfl
      · exact absurd c_9 (by unfold w32; omega)
    | succ k ih =>
      intro i ts st c hi i0 hty hse hok hst hle hc
      have l0 : c 67 0 = 68 := by rw [hc 67 (by decide)]; exact L.at _ _ rfl
      have l1 : c 67 1 = 69 := by rw [hc 67 (by decide)]; exact L.at _ _ rfl
      have lb : c b 14 = b + 4 := by rw [hc b (by simp [n1])]; exact b9
      have hop : c (b + 4) i = ct (b + 4) i := by rw [hc (b + 4) (by simp [n2])]
      have hask : c 69 = ct 69 := hc 69 (by decide)
      obtain ⟨ts', hs1, hs2⟩ := typL_cons hty
      have hok' := semS_ok ha hs1 hok
      have hlen := okT_len ts st hok
      have hse' : semL (ct 69) (codeL (ct (b + 4)) (i + 1) k) (semS (ct 69) (ct (b + 4) i) st) = T := hse
      refine g_iload (q := 8) dX7_holds_6 rfl rfl ?_
      refine g_iload_n (q := 9) dX7_holds_8 rfl rfl ?_
      refine g_icmp_ge (q := 12) (tg := 330) dX7_holds_9 (by decide) rfl (fun c_9 => ?_) (fun c_9 => ?_)
      · exact absurd c_9 (by unfold w32; omega)
      · refine g_aload_n (q := 13) dX7_holds_12 rfl rfl ?_
        refine g_getA (q := 16) (kI := 14) fX7_47 (by first | assumption | exact S.at _ rfl) dX7_holds_13 rfl rfl (by first | assumption | exact L.at _ _ rfl | exact LK.at (by assumption) _ _ rfl | ((repeat first | rewrite [wr_na (by decide)] | rewrite [wr_nk (by decide)] | rewrite [wa_na (by decide)]); first | assumption | exact LK.at (by assumption) _ _ rfl) | exact rfl) ?_
        refine g_iload (q := 18) dX7_holds_16 rfl rfl ?_
        refine g_saload (q := 19) (by first | assumption | exact S.at _ rfl) (by omega) (by omega) (by omega) dX7_holds_18 rfl ?_
        refine s_istore_11_6 (q := 21) dX7_holds_19 rfl rfl rfl ?_
        rw [hop]
        generalize hO : ct (b + 4) i = op at hs1 hok' hse' ⊢
        rcases typS_cases hs1 with ⟨p1, p2, p3, rfl⟩ | ⟨rfl, r, rfl, rfl⟩ | ⟨p1, p2, p3, x, y, r, z, rfl, rfl, p4, p5⟩
        · have next : G (mkK YX7_holds d sh sh (pI fun r c => r = b01 (T = [1]) ∧ eqBut [68] ct c)) 61 [some (.inr (.inr 67)), some (.inr (.inr b)), some (.inl fr), some (.inl en), some (.inl st.length), some (.inl i), some (.inl op), none, none, none, none] [] sh (wr c 68 st.length (if 0 ≤ op then op else ct 69 (-1 - op))) := by
            refine s_iinc_11_4 (q := 64) dX7_holds_61 rfl rfl rfl ?_
            refine g_goto (q := 324) dX7_holds_64 (by decide) ?_
            refine s_iinc_11_5 (q := 327) dX7_holds_324 rfl rfl rfl ?_
            refine g_goto (q := 6) dX7_holds_327 (by decide) ?_
            refine g_fg (ls' := [some (.inr (.inr 67)), some (.inr (.inr b)), some (.inl fr), some (.inl en), some (.inl ((semS (ct 69) op st).length : Int)), some (.inl (i + 1)), none, none, none, none, none]) ?_ (ih (i + 1) _ (semS (ct 69) op st) _ (by omega) (by omega) hs2 hse' hok' ?_ (by simp; omega) (hc.wr (by decide)))
            · simp [lsSub, semS, p1, p2]
            · unfold semS
              rw [if_pos (show -6 ≤ op ∧ op ≤ 999 from ⟨p1, p2⟩)]
              exact ⟨wr_eq, stkAt_up hst (fun j hj => by unfold wr; rw [if_neg (by omega)])⟩
          refine g_iload (q := 23) dX7_holds_21 rfl rfl ?_
          refine g_bipush (q := 25) dX7_holds_23 (by decide +kernel) rfl ?_
          refine g_icmp_lt (q := 28) (tg := 67) dX7_holds_25 (by decide) rfl (fun c_25 => ?_) (fun c_25 => ?_)
          · exact absurd c_25 (by unfold w32; omega)
          · refine g_iload (q := 30) dX7_holds_28 rfl rfl ?_
            refine g_bipush (q := 32) dX7_holds_30 (by decide +kernel) rfl ?_
            refine g_icmp_ge (q := 35) (tg := 67) dX7_holds_32 (by decide) rfl (fun c_32 => ?_) (fun c_32 => ?_)
            · exact absurd c_32 (by unfold w32; omega)
            · refine g_aload_n (q := 36) dX7_holds_35 rfl rfl ?_
              refine g_getA (q := 39) (kI := 0) fX7_9 (by first | assumption | exact S.at _ rfl) dX7_holds_36 rfl rfl (by first | assumption | exact L.at _ _ rfl | exact LK.at (by assumption) _ _ rfl | ((repeat first | rewrite [wr_na (by decide)] | rewrite [wr_nk (by decide)] | rewrite [wa_na (by decide)]); first | assumption | exact LK.at (by assumption) _ _ rfl) | exact rfl) ?_
              refine g_iload (q := 41) dX7_holds_39 rfl rfl ?_
              refine g_iload (q := 43) dX7_holds_41 rfl rfl ?_
              refine g_if_lt (q := 46) (tg := 51) dX7_holds_43 (by decide) rfl (fun c_43 => ?_) (fun c_43 => ?_)
              · have hlt : ¬ 0 ≤ op := by unfold w32 at c_43; omega
                rw [if_neg hlt] at next
                refine g_aload_n (q := 52) dX7_holds_51 rfl rfl ?_
                refine g_getA (q := 55) (kI := 1) fX7_15 (by first | assumption | exact S.at _ rfl) dX7_holds_52 rfl rfl (by first | assumption | exact L.at _ _ rfl | exact LK.at (by assumption) _ _ rfl | ((repeat first | rewrite [wr_na (by decide)] | rewrite [wr_nk (by decide)] | rewrite [wa_na (by decide)]); first | assumption | exact LK.at (by assumption) _ _ rfl) | exact rfl) ?_
                refine g_iconst (q := 56) dX7_holds_55 rfl ?_
                refine g_iload (q := 58) dX7_holds_56 rfl rfl ?_
                refine g_isub (q := 59) dX7_holds_58 rfl ?_
                refine g_iaload (q := 60) (by first | assumption | exact S.at _ rfl) (by omega) (by omega) (by omega) dX7_holds_59 rfl ?_
                rw [hask]
                refine g_iastore (q := 61) (by first | assumption | exact S.at _ rfl) (by omega) (by omega) (by omega) dX7_holds_60 rfl ?_
                exact next
              · have hge : 0 ≤ op := by unfold w32 at c_43; omega
                rw [if_pos hge] at next
                refine g_iload (q := 48) dX7_holds_46 rfl rfl ?_
                refine g_goto (q := 60) dX7_holds_48 (by decide) ?_
                refine g_iastore (q := 61) (by first | assumption | exact S.at _ rfl) (by omega) (by omega) (by omega) dX7_holds_60 rfl ?_
                exact next
        · obtain ⟨v, st2, rfl⟩ : ∃ v st2, st = v :: st2 := by
            match st, hok with
            | v :: st2, _ => exact ⟨v, st2, rfl⟩
          have hv : c 68 st2.length = v := hst.1
          refine g_iload (q := 23) dX7_holds_21 rfl rfl ?_
          refine g_bipush (q := 25) dX7_holds_23 (by decide +kernel) rfl ?_
          refine g_icmp_lt (q := 28) (tg := 67) dX7_holds_25 (by decide) rfl (fun c_25 => ?_) (fun c_25 => ?_)
          · refine g_iload (q := 69) dX7_holds_67 rfl rfl ?_
            refine g_bipush (q := 71) dX7_holds_69 (by decide +kernel) rfl ?_
            refine g_icmp_ne (q := 74) (tg := 103) dX7_holds_71 (by decide) rfl (fun c_71 => ?_) (fun c_71 => ?_)
            · exact absurd rfl c_71
            · refine g_iload (q := 76) dX7_holds_74 rfl rfl ?_
              refine g_iconst (q := 77) dX7_holds_76 rfl ?_
              refine g_icmp_lt (q := 80) (tg := 103) dX7_holds_77 (by decide) rfl (fun c_77 => ?_) (fun c_77 => ?_)
              · exact absurd c_77 (by simp at *; unfold w32; omega)
              · have e1 : (((v :: st2).length : Nat) : Int) - 1 = st2.length := by simp
                have hl2 : st2.length < 64 := by simp at hlen hle; omega
                refine g_aload_n (q := 81) dX7_holds_80 rfl rfl ?_
                refine g_getA (q := 84) (kI := 0) fX7_9 (by first | assumption | exact S.at _ rfl) dX7_holds_81 rfl rfl (by first | assumption | exact L.at _ _ rfl | exact LK.at (by assumption) _ _ rfl | ((repeat first | rewrite [wr_na (by decide)] | rewrite [wr_nk (by decide)] | rewrite [wa_na (by decide)]); first | assumption | exact LK.at (by assumption) _ _ rfl) | exact rfl) ?_
                refine g_iload (q := 86) dX7_holds_84 rfl rfl ?_
                refine g_iconst (q := 87) dX7_holds_86 rfl ?_
                refine g_isub (q := 88) dX7_holds_87 rfl ?_
                rw [e1]
                refine g_iconst (q := 89) dX7_holds_88 rfl ?_
                refine g_aload_n (q := 90) dX7_holds_89 rfl rfl ?_
                refine g_getA (q := 93) (kI := 0) fX7_9 (by first | assumption | exact S.at _ rfl) dX7_holds_90 rfl rfl (by first | assumption | exact L.at _ _ rfl | exact LK.at (by assumption) _ _ rfl | ((repeat first | rewrite [wr_na (by decide)] | rewrite [wr_nk (by decide)] | rewrite [wa_na (by decide)]); first | assumption | exact LK.at (by assumption) _ _ rfl) | exact rfl) ?_
                refine g_iload (q := 95) dX7_holds_93 rfl rfl ?_
                refine g_iconst (q := 96) dX7_holds_95 rfl ?_
                refine g_isub (q := 97) dX7_holds_96 rfl ?_
                rw [e1]
                refine g_iaload (q := 98) (by first | assumption | exact S.at _ rfl) (by omega) (by omega) (by omega) dX7_holds_97 rfl ?_
                refine g_isub (q := 99) dX7_holds_98 rfl ?_
                rw [hv]
                refine g_iastore (q := 100) (by first | assumption | exact S.at _ rfl) (by omega) (by omega) (by omega) dX7_holds_99 rfl ?_
                refine g_goto (q := 324) dX7_holds_100 (by decide) ?_
                refine s_iinc_11_5 (q := 327) dX7_holds_324 rfl rfl rfl ?_
                refine g_goto (q := 6) dX7_holds_327 (by decide) ?_
                refine g_fg (ls' := [some (.inr (.inr 67)), some (.inr (.inr b)), some (.inl fr), some (.inl en), some (.inl ((semS (ct 69) (-13) (v :: st2)).length : Int)), some (.inl (i + 1)), none, none, none, none, none]) ?_ (ih (i + 1) _ (semS (ct 69) (-13) (v :: st2)) _ (by omega) (by omega) hs2 hse' hok' ?_ hle (hc.wr (by decide)))
                · simp [lsSub, semS]
                · exact ⟨wr_eq, stkAt_up hst.2 (fun j hj => by unfold wr; rw [if_neg (by omega)])⟩
          · exact absurd c_25 (by unfold w32; omega)
        · obtain ⟨bb, a, st2, rfl, ho2, q1, q2, q3, q4⟩ := okT_2 hok
          have hbb : c 68 (st2.length + 1) = bb := by have := hst.1; simpa using this
          have haa : c 68 st2.length = a := hst.2.1
          have hl2 : (st2.length : Int) + 2 ≤ 64 := by simp at hlen hle; omega
          have e2 : ((((bb :: a :: st2).length : Nat) : Int) + -1) = st2.length + 1 := by simp; omega
          have sem2 : semS (ct 69) op (bb :: a :: st2) = opV op a bb :: st2 := by
            unfold semS
            rw [if_neg (by omega)]
            show (if op = -13 then _ else _) = _
            rw [if_neg p3]
          rw [sem2] at hok' hse'
          have tail : ∀ (zz : Int) (o7 o8 : Option gV), -1000000000000 ≤ zz → zz ≤ 1000000000000 → cl6 zz = opV op a bb → G (mkK YX7_holds d sh sh (pI fun r c => r = b01 (T = [1]) ∧ eqBut [68] ct c)) 284 [some (.inr (.inr 67)), some (.inr (.inr b)), some (.inl fr), some (.inl en), some (.inl (st2.length + 1)), some (.inl i), some (.inl op), o7, o8, some (.inr (.inl zz)), none] [] sh c := by
            intro zz o7 o8 z1 z2 z3
            have fin : G (mkK YX7_holds d sh sh (pI fun r c => r = b01 (T = [1]) ∧ eqBut [68] ct c)) 324 [some (.inr (.inr 67)), some (.inr (.inr b)), some (.inl fr), some (.inl en), some (.inl (st2.length + 1)), some (.inl i), some (.inl op), o7, o8, some (.inr (.inl zz)), none] [] sh (wr c 68 st2.length (cl6 zz)) := by
              refine s_iinc_11_5 (q := 327) dX7_holds_324 rfl rfl rfl ?_
              refine g_goto (q := 6) dX7_holds_327 (by decide) ?_
              refine g_fg (ls' := [some (.inr (.inr 67)), some (.inr (.inr b)), some (.inl fr), some (.inl en), some (.inl (((opV op a bb :: st2).length : Nat) : Int)), some (.inl (i + 1)), none, none, none, none, none]) ?_ (ih (i + 1) _ (opV op a bb :: st2) _ (by omega) (by omega) hs2 hse' hok' ?_ (by simp at hle ⊢; omega) (hc.wr (by decide)))
              · simp [lsSub]
              · exact ⟨by rw [wr_eq, z3], stkAt_up hst.2.2 (fun j hj => by unfold wr; rw [if_neg (by omega)])⟩
            refine g_aload_n (q := 285) dX7_holds_284 rfl rfl ?_
            refine g_getA (q := 288) (kI := 0) fX7_9 (by first | assumption | exact S.at _ rfl) dX7_holds_285 rfl rfl (by first | assumption | exact L.at _ _ rfl | exact LK.at (by assumption) _ _ rfl | ((repeat first | rewrite [wr_na (by decide)] | rewrite [wr_nk (by decide)] | rewrite [wa_na (by decide)]); first | assumption | exact LK.at (by assumption) _ _ rfl) | exact rfl) ?_
            refine g_iload (q := 290) dX7_holds_288 rfl rfl ?_
            refine g_iconst (q := 291) dX7_holds_290 rfl ?_
            refine g_isub (q := 292) dX7_holds_291 rfl ?_
            rw [show (st2.length : Int) + 1 - 1 = st2.length by omega]
            refine g_lload (q := 294) dX7_holds_292 rfl rfl ?_
            refine g_ldc2 (q := 297) dX7_holds_294 kX7_51 rfl ?_
            refine g_lcmp (q := 298) dX7_holds_297 rfl ?_
            refine g_if_le (q := 301) (tg := 306) dX7_holds_298 (by decide) rfl (fun c_298 => ?_) (fun c_298 => ?_)
            · have hle1 : zz ≤ 1000000 := (cmp_le (by omega) (by omega) (by omega) (by omega)).mp c_298
              refine g_lload (q := 308) dX7_holds_306 rfl rfl ?_
              refine g_ldc2 (q := 311) dX7_holds_308 kX7_54 rfl ?_
              refine g_lcmp (q := 312) dX7_holds_311 rfl ?_
              refine g_if_ge (q := 315) (tg := 320) dX7_holds_312 (by decide) rfl (fun c_312 => ?_) (fun c_312 => ?_)
              · have hge1 : -1000000 ≤ zz := (cmp_ge (by omega) (by omega) (by omega) (by omega)).mp c_312
                refine g_lload (q := 322) dX7_holds_320 rfl rfl ?_
                refine g_l2i (q := 323) dX7_holds_322 rfl ?_
                refine g_iastore (q := 324) (by first | assumption | exact S.at _ rfl) (by omega) (by omega) (by omega) dX7_holds_323 rfl ?_
                rw [show cl6 zz = zz by unfold cl6; rw [if_neg (by omega), if_neg (by omega)]] at fin
                exact fin
              · have hlt1 : zz < -1000000 := by
                  have : ¬ -1000000 ≤ zz := fun h => absurd ((cmp_ge (x := zz) (y := -1000000) (by omega) (by omega) (by omega) (by omega)).mpr h) (by omega)
                  omega
                refine g_ldc (q := 317) dX7_holds_315 kX7_56 rfl ?_
                refine g_goto (q := 323) dX7_holds_317 (by decide) ?_
                refine g_iastore (q := 324) (by first | assumption | exact S.at _ rfl) (by omega) (by omega) (by omega) dX7_holds_323 rfl ?_
                rw [show cl6 zz = -1000000 by unfold cl6; rw [if_neg (by omega), if_pos (by omega)]] at fin
                exact fin
            · have hgt1 : 1000000 < zz := by
                have : ¬ zz ≤ 1000000 := fun h => absurd ((cmp_le (x := zz) (y := 1000000) (by omega) (by omega) (by omega) (by omega)).mpr h) (by omega)
                omega
              refine g_ldc (q := 303) dX7_holds_301 kX7_53 rfl ?_
              refine g_goto (q := 323) dX7_holds_303 (by decide) ?_
              refine g_iastore (q := 324) (by first | assumption | exact S.at _ rfl) (by omega) (by omega) (by omega) dX7_holds_323 rfl ?_
              rw [show cl6 zz = 1000000 by unfold cl6; rw [if_pos (by omega)]] at fin
              exact fin
          refine g_iload (q := 23) dX7_holds_21 rfl rfl ?_
          refine g_bipush (q := 25) dX7_holds_23 (by decide +kernel) rfl ?_
          refine g_icmp_lt (q := 28) (tg := 67) dX7_holds_25 (by decide) rfl (fun c_25 => ?_) (fun c_25 => ?_)
          · refine g_iload (q := 69) dX7_holds_67 rfl rfl ?_
            refine g_bipush (q := 71) dX7_holds_69 (by decide +kernel) rfl ?_
            refine g_icmp_ne (q := 74) (tg := 103) dX7_holds_71 (by decide) rfl (fun c_71 => ?_) (fun c_71 => ?_)
            · refine g_iload (q := 105) dX7_holds_103 rfl rfl ?_
              refine g_iconst (q := 106) dX7_holds_105 rfl ?_
              refine g_icmp_lt (q := 109) (tg := 324) dX7_holds_106 (by decide) rfl (fun c_106 => ?_) (fun c_106 => ?_)
              · exact absurd c_106 (by simp; unfold w32; omega)
              · refine s_iinc_11_4 (q := 112) dX7_holds_109 rfl rfl rfl ?_
                rw [e2]
                refine g_aload_n (q := 113) dX7_holds_112 rfl rfl ?_
                refine g_getA (q := 116) (kI := 0) fX7_9 (by first | assumption | exact S.at _ rfl) dX7_holds_113 rfl rfl (by first | assumption | exact L.at _ _ rfl | exact LK.at (by assumption) _ _ rfl | ((repeat first | rewrite [wr_na (by decide)] | rewrite [wr_nk (by decide)] | rewrite [wa_na (by decide)]); first | assumption | exact LK.at (by assumption) _ _ rfl) | exact rfl) ?_
                refine g_iload (q := 118) dX7_holds_116 rfl rfl ?_
                refine g_iconst (q := 119) dX7_holds_118 rfl ?_
                refine g_isub (q := 120) dX7_holds_119 rfl ?_
                rw [show (st2.length : Int) + 1 - 1 = st2.length by omega]
                refine g_iaload (q := 121) (by first | assumption | exact S.at _ rfl) (by omega) (by omega) (by omega) dX7_holds_120 rfl ?_
                rw [haa]
                refine s_istore_11_7 (q := 123) dX7_holds_121 rfl rfl rfl ?_
                refine g_aload_n (q := 124) dX7_holds_123 rfl rfl ?_
                refine g_getA (q := 127) (kI := 0) fX7_9 (by first | assumption | exact S.at _ rfl) dX7_holds_124 rfl rfl (by first | assumption | exact L.at _ _ rfl | exact LK.at (by assumption) _ _ rfl | ((repeat first | rewrite [wr_na (by decide)] | rewrite [wr_nk (by decide)] | rewrite [wa_na (by decide)]); first | assumption | exact LK.at (by assumption) _ _ rfl) | exact rfl) ?_
                refine g_iload (q := 129) dX7_holds_127 rfl rfl ?_
                refine g_iaload (q := 130) (by first | assumption | exact S.at _ rfl) (by omega) (by omega) (by omega) dX7_holds_129 rfl ?_
                rw [hbb]
                refine s_istore_11_8 (q := 132) dX7_holds_130 rfl rfl rfl ?_
                refine g_iload (q := 134) dX7_holds_132 rfl rfl ?_
                have wab : w32 a = a := w32_id (by omega) (by omega)
                have wbb : w32 bb = bb := w32_id (by omega) (by omega)
                rcases (show op = -7 ∨ op = -8 ∨ op = -9 ∨ op = -10 ∨ op = -11 ∨ op = -12 ∨ op = -14 ∨ op = -15 by omega) with rfl | rfl | rfl | rfl | rfl | rfl | rfl | rfl
                · refine g_tabIn (q := 180) dX7_holds_134 (-7) rfl (by decide) (by decide) rfl (by decide) ?_
                  refine g_iload (q := 182) dX7_holds_180 rfl rfl ?_
                  refine g_iload (q := 184) dX7_holds_182 rfl rfl ?_
                  refine g_iadd (q := 185) dX7_holds_184 rfl ?_
                  refine g_i2l (q := 186) dX7_holds_185 rfl ?_
                  refine s_lstore_11_9 (q := 188) dX7_holds_186 rfl rfl rfl ?_
                  refine g_goto (q := 284) dX7_holds_188 (by decide) ?_
                  rw [w32_id (x := a + bb) (by omega) (by omega)]
                  exact tail (a + bb) _ _ (by omega) (by omega) (opV_7 a bb).symm
                · refine g_tabIn (q := 191) dX7_holds_134 (-8) rfl (by decide) (by decide) rfl (by decide) ?_
                  refine g_iload (q := 193) dX7_holds_191 rfl rfl ?_
                  refine g_iload (q := 195) dX7_holds_193 rfl rfl ?_
                  refine g_isub (q := 196) dX7_holds_195 rfl ?_
                  refine g_i2l (q := 197) dX7_holds_196 rfl ?_
                  refine s_lstore_11_9 (q := 199) dX7_holds_197 rfl rfl rfl ?_
                  refine g_goto (q := 284) dX7_holds_199 (by decide) ?_
                  rw [w32_id (x := a - bb) (by omega) (by omega)]
                  exact tail (a - bb) _ _ (by omega) (by omega) (opV_8 a bb).symm
                · refine g_tabIn (q := 202) dX7_holds_134 (-9) rfl (by decide) (by decide) rfl (by decide) ?_
                  refine g_iload (q := 204) dX7_holds_202 rfl rfl ?_
                  refine g_i2l (q := 205) dX7_holds_204 rfl ?_
                  refine g_iload (q := 207) dX7_holds_205 rfl rfl ?_
                  refine g_i2l (q := 208) dX7_holds_207 rfl ?_
                  refine g_lmul (q := 209) dX7_holds_208 rfl ?_
                  refine s_lstore_11_9 (q := 211) dX7_holds_209 rfl rfl rfl ?_
                  refine g_goto (q := 284) dX7_holds_211 (by decide) ?_
                  rw [wab, wbb]
                  have hm1 : a * bb ≤ 1000000000000 ∧ -1000000000000 ≤ a * bb := by
                    have k1 : (1000000 - a) * (1000000 - bb) ≥ 0 := Int.mul_nonneg (by omega) (by omega)
                    have k2 : (1000000 + a) * (1000000 + bb) ≥ 0 := Int.mul_nonneg (by omega) (by omega)
                    have k3 : (1000000 - a) * (1000000 + bb) ≥ 0 := Int.mul_nonneg (by omega) (by omega)
                    have k4 : (1000000 + a) * (1000000 - bb) ≥ 0 := Int.mul_nonneg (by omega) (by omega)
                    grind
                  exact tail (a * bb) _ _ hm1.2 hm1.1 (opV_9 a bb).symm
                · refine g_tabIn (q := 214) dX7_holds_134 (-10) rfl (by decide) (by decide) rfl (by decide) ?_
                  refine g_iload (q := 216) dX7_holds_214 rfl rfl ?_
                  refine g_iload (q := 218) dX7_holds_216 rfl rfl ?_
                  refine g_icmp_ne (q := 221) (tg := 225) dX7_holds_218 (by decide) rfl (fun c_218 => ?_) (fun c_218 => ?_)
                  · refine g_lconst0 (q := 226) dX7_holds_225 rfl ?_
                    refine s_lstore_11_9 (q := 228) dX7_holds_226 rfl rfl rfl ?_
                    refine g_goto (q := 284) dX7_holds_228 (by decide) ?_
                    exact tail 0 _ _ (by omega) (by omega) (by rw [opV_10, ← b01_f (p := a = bb) (by omega), cl6_id (by omega) (by omega)])
                  · refine g_lconst1 (q := 222) dX7_holds_221 rfl ?_
                    refine g_goto (q := 226) dX7_holds_222 (by decide) ?_
                    refine s_lstore_11_9 (q := 228) dX7_holds_226 rfl rfl rfl ?_
                    refine g_goto (q := 284) dX7_holds_228 (by decide) ?_
                    exact tail 1 _ _ (by omega) (by omega) (by rw [opV_10, ← b01_t (p := a = bb) (by omega), cl6_id (by omega) (by omega)])
                · refine g_tabIn (q := 231) dX7_holds_134 (-11) rfl (by decide) (by decide) rfl (by decide) ?_
                  refine g_iload (q := 233) dX7_holds_231 rfl rfl ?_
                  refine g_iload (q := 235) dX7_holds_233 rfl rfl ?_
                  refine g_icmp_ge (q := 238) (tg := 242) dX7_holds_235 (by decide) rfl (fun c_235 => ?_) (fun c_235 => ?_)
                  · refine g_lconst0 (q := 243) dX7_holds_242 rfl ?_
                    refine s_lstore_11_9 (q := 245) dX7_holds_243 rfl rfl rfl ?_
                    refine g_goto (q := 284) dX7_holds_245 (by decide) ?_
                    exact tail 0 _ _ (by omega) (by omega) (by rw [opV_11, ← b01_f (p := a < bb) (by omega), cl6_id (by omega) (by omega)])
                  · refine g_lconst1 (q := 239) dX7_holds_238 rfl ?_
                    refine g_goto (q := 243) dX7_holds_239 (by decide) ?_
                    refine s_lstore_11_9 (q := 245) dX7_holds_243 rfl rfl rfl ?_
                    refine g_goto (q := 284) dX7_holds_245 (by decide) ?_
                    exact tail 1 _ _ (by omega) (by omega) (by rw [opV_11, ← b01_t (p := a < bb) (by omega), cl6_id (by omega) (by omega)])
                · refine g_tabIn (q := 248) dX7_holds_134 (-12) rfl (by decide) (by decide) rfl (by decide) ?_
                  refine g_iload (q := 250) dX7_holds_248 rfl rfl ?_
                  refine g_iload (q := 252) dX7_holds_250 rfl rfl ?_
                  refine g_icmp_le (q := 255) (tg := 259) dX7_holds_252 (by decide) rfl (fun c_252 => ?_) (fun c_252 => ?_)
                  · refine g_lconst0 (q := 260) dX7_holds_259 rfl ?_
                    refine s_lstore_11_9 (q := 262) dX7_holds_260 rfl rfl rfl ?_
                    refine g_goto (q := 284) dX7_holds_262 (by decide) ?_
                    exact tail 0 _ _ (by omega) (by omega) (by rw [opV_12, ← b01_f (p := bb < a) (by omega), cl6_id (by omega) (by omega)])
                  · refine g_lconst1 (q := 256) dX7_holds_255 rfl ?_
                    refine g_goto (q := 260) dX7_holds_256 (by decide) ?_
                    refine s_lstore_11_9 (q := 262) dX7_holds_260 rfl rfl rfl ?_
                    refine g_goto (q := 284) dX7_holds_262 (by decide) ?_
                    exact tail 1 _ _ (by omega) (by omega) (by rw [opV_12, ← b01_t (p := bb < a) (by omega), cl6_id (by omega) (by omega)])
                · refine g_tabIn (q := 265) dX7_holds_134 (-14) rfl (by decide) (by decide) rfl (by decide) ?_
                  obtain ⟨p6, p7, -⟩ := p4 (by decide)
                  have hand := (and01 (q2 p7) (q1 p6)).1
                  refine g_iload (q := 267) dX7_holds_265 rfl rfl ?_
                  refine g_iload (q := 269) dX7_holds_267 rfl rfl ?_
                  refine g_iand (q := 270) dX7_holds_269 rfl ?_
                  refine g_i2l (q := 271) dX7_holds_270 rfl ?_
                  refine s_lstore_11_9 (q := 273) dX7_holds_271 rfl rfl rfl ?_
                  refine g_goto (q := 284) dX7_holds_273 (by decide) ?_
                  rw [hand]
                  rcases b01_in (a = 1 ∧ bb = 1) with hz | hz
                  · rw [hz]
                    exact tail 0 _ _ (by omega) (by omega) (by rw [opV_14, hz, cl6_id (by omega) (by omega)])
                  · rw [hz]
                    exact tail 1 _ _ (by omega) (by omega) (by rw [opV_14, hz, cl6_id (by omega) (by omega)])
                · refine g_tabOut (q := 276) dX7_holds_134 (Or.inl (by decide)) (by decide) ?_
                  obtain ⟨p6, p7, -⟩ := p4 (by decide)
                  have hor := (and01 (q2 p7) (q1 p6)).2
                  refine g_iload (q := 278) dX7_holds_276 rfl rfl ?_
                  refine g_iload (q := 280) dX7_holds_278 rfl rfl ?_
                  refine g_ior (q := 281) dX7_holds_280 rfl ?_
                  refine g_i2l (q := 282) dX7_holds_281 rfl ?_
                  refine s_lstore_11_9 (q := 284) dX7_holds_282 rfl rfl rfl ?_
                  rw [hor]
                  rcases b01_in (a = 1 ∨ bb = 1) with hz | hz
                  · rw [hz]
                    exact tail 0 _ _ (by omega) (by omega) (by rw [opV_15, hz, cl6_id (by omega) (by omega)])
                  · rw [hz]
                    exact tail 1 _ _ (by omega) (by omega) (by rw [opV_15, hz, cl6_id (by omega) (by omega)])
            · exact absurd c_71 (by unfold w32; omega)
          · exact absurd c_25 (by unfold w32; omega)
  refine Mt.of rfl (Nat.le_of_ble_eq_true rfl) ?_
  show G _ 0 [some (.inr (.inr 67)), some (.inr (.inr b)), some (.inl fr), some (.inl en), none, none, none, none, none, none, none] [] sh ct
  refine g_iconst (q := 1) dX7_holds_0 rfl ?_
  refine s_istore_11_4 (q := 3) dX7_holds_1 rfl rfl rfl ?_
  refine g_iload_n (q := 4) dX7_holds_3 rfl rfl ?_
  refine s_istore_11_5 (q := 6) dX7_holds_4 rfl rfl rfl ?_
  exact loop n fr [] [] ct (by omega) h0 wf hT trivial trivial (by simp) eqBut.rf
end
