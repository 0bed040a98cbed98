/-! the law: feeding, the book -/
section
variable {nm : String} {b0 L : Nat} {xs : Nat → Int32} {sh : mbSh} {ct : mbCt} {i : Int}
theorem L_feed (hL : L ≤ 3072) (hi0 : 0 ≤ i) (hiL : i + 6 ≤ (L : Int)) (I : INV sh ct (4 * i)) (kk : ∀ sh2 ct2, INV sh2 ct2 (4 * (i + 6)) → G (KL nm b0 L xs) 1490 [some (.inr (.inr (-11))), some (.inr (.inr 0)), some (.inr (.inr 92)), some (.inl i)] [] sh2 ct2) : G (KL nm b0 L xs) 224 [some (.inr (.inr (-11))), some (.inr (.inr 0)), some (.inr (.inr 92)), some (.inl i)] [] sh ct := by
  obtain ⟨b, o, β, s, n, pl, q, N, hi, bi, si, sz, bt, vl, tn, C, M, J, R⟩ := I
  have S := R.1
  obtain ⟨t1, ⟨t2, t3⟩, t4⟩ := C.2.2.2.1
  refine g_aload_n (q := 225) dL_law_224 rfl rfl ?_
  refine g_aload_n (q := 226) dL_law_225 rfl rfl ?_
  refine g_iload_n (q := 227) dL_law_226 rfl rfl ?_
  refine g_iconst (q := 228) dL_law_227 rfl ?_
  refine g_iadd (q := 229) dL_law_228 rfl ?_
  refine g_sld (q := 230) hi0 hiL (by omega) (by omega) dL_law_229 rfl ?_
  refine g_aload_n (q := 231) dL_law_230 rfl rfl ?_
  refine g_iload_n (q := 232) dL_law_231 rfl rfl ?_
  refine g_iconst (q := 233) dL_law_232 rfl ?_
  refine g_iadd (q := 234) dL_law_233 rfl ?_
  refine g_sld (q := 235) hi0 hiL (by omega) (by omega) dL_law_234 rfl ?_
  refine g_aload_n (q := 236) dL_law_235 rfl rfl ?_
  refine g_iload_n (q := 237) dL_law_236 rfl rfl ?_
  refine g_iconst (q := 238) dL_law_237 rfl ?_
  refine g_iadd (q := 239) dL_law_238 rfl ?_
  refine g_sld (q := 240) hi0 hiL (by omega) (by omega) dL_law_239 rfl ?_
  refine g_aload_n (q := 241) dL_law_240 rfl rfl ?_
  refine g_iload_n (q := 242) dL_law_241 rfl rfl ?_
  refine g_iconst (q := 243) dL_law_242 rfl ?_
  refine g_iadd (q := 244) dL_law_243 rfl ?_
  refine g_sld (q := 245) hi0 hiL (by omega) (by omega) dL_law_244 rfl ?_
  refine g_aload_n (q := 246) dL_law_245 rfl rfl ?_
  refine g_iload_n (q := 247) dL_law_246 rfl rfl ?_
  refine g_iconst (q := 248) dL_law_247 rfl ?_
  refine g_iadd (q := 249) dL_law_248 rfl ?_
  refine g_sld (q := 250) hi0 hiL (by omega) (by omega) dL_law_249 rfl ?_
  refine g_callV (q := 253) lL_13 mX11_feed nX11_feed rfl (x_feed2 0 sh _ S C.L t1 t2 t3) (S.at _ rfl) rfl rfl shLe.rf (rmL R (by decide)) (Nat.le_of_ble_eq_true rfl) dL_law_250 rfl rfl (kI fun r c1 hp => ?_)
  rcases hp with ⟨h1, er, hc⟩ | ⟨h1, er, a1, a2, a3, a4, a5⟩
  · subst hc
    refine g_aload_n (q := 254) dL_law_253 rfl rfl ?_
    refine g_aload_n (q := 255) dL_law_254 rfl rfl ?_
    refine g_iload_n (q := 256) dL_law_255 rfl rfl ?_
    refine g_iconst (q := 257) dL_law_256 rfl ?_
    refine g_iadd (q := 258) dL_law_257 rfl ?_
    refine g_sld (q := 259) hi0 hiL (by omega) (by omega) dL_law_258 rfl ?_
    refine g_aload_n (q := 260) dL_law_259 rfl rfl ?_
    refine g_iload_n (q := 261) dL_law_260 rfl rfl ?_
    refine g_iconst (q := 262) dL_law_261 rfl ?_
    refine g_iadd (q := 263) dL_law_262 rfl ?_
    refine g_sld (q := 264) hi0 hiL (by omega) (by omega) dL_law_263 rfl ?_
    refine g_aload_n (q := 265) dL_law_264 rfl rfl ?_
    refine g_iload_n (q := 266) dL_law_265 rfl rfl ?_
    refine g_iconst (q := 267) dL_law_266 rfl ?_
    refine g_iadd (q := 268) dL_law_267 rfl ?_
    refine g_sld (q := 269) hi0 hiL (by omega) (by omega) dL_law_268 rfl ?_
    refine g_aload_n (q := 270) dL_law_269 rfl rfl ?_
    refine g_iload_n (q := 271) dL_law_270 rfl rfl ?_
    refine g_iconst (q := 272) dL_law_271 rfl ?_
    refine g_iadd (q := 273) dL_law_272 rfl ?_
    refine g_sld (q := 274) hi0 hiL (by omega) (by omega) dL_law_273 rfl ?_
    refine g_aload_n (q := 275) dL_law_274 rfl rfl ?_
    refine g_iload_n (q := 276) dL_law_275 rfl rfl ?_
    refine g_iconst (q := 277) dL_law_276 rfl ?_
    refine g_iadd (q := 278) dL_law_277 rfl ?_
    refine g_sld (q := 279) hi0 hiL (by omega) (by omega) dL_law_278 rfl ?_
    refine g_callV (q := 282) lL_17 mX12_feed nX12_feed rfl (tw_feed 0 sh _ S M.L M.2.2.2 t2 t3) (S.at _ rfl) rfl rfl shLe.rf (rmL R (by decide)) (Nat.le_of_ble_eq_true rfl) dL_law_279 rfl rfl (kI fun r2 c2 hp => ?_)
    rcases hp with ⟨h2, er2, hc⟩ | ⟨h2, -⟩
    · have f2 : mF c1 c2 := by rw [hc]; exact mF.of0
      have e : r = r2 := er.trans er2.symm
      refine g_icmp_eq (q := 285) (tg := 1490) dL_law_282 (by decide) rfl (fun c_282 => ?_) (fun c_282 => ?_)
      · exact kk sh c2 ⟨b, o, β, s, n, pl, q, N, hi, bi, si, sz, bt, vl, tn, (C.r (f2.L M.L) f2.rf').up (by omega) (by omega), M.k f2, J.k f2, R⟩
      · exact absurd (by rw [e]) c_282
    · exfalso; omega
  · have L1 : LK c1 := by
      intro x k v hv
      by_cases hx : x = 0
      · subst hx
        by_cases hk : k = 1
        · subst hk; cases hv
        · rw [a4 k hk]; exact C.L _ _ _ hv
      · by_cases hx1 : x = 1
        · subst hx1
          rw [lkF_none rfl k] at hv
          cases hv
        · rw [a5 x (by simp; omega)]
          exact C.L _ _ _ hv
    have e : ∀ x : Int, 2 ≤ x → c1 x = ct x := fun x hx => a5 x (by simp; omega)
    have e1 : clF ct c1 := fun x a b => e x (by omega)
    have hbo := C.bo
    have T1 : txB (c1 1) := by
      intro j j0 j1
      by_cases hj : tn ≤ j ∧ j < tn + 20
      · obtain ⟨z, z1, -⟩ := a2 (j - tn) (by omega) (by omega)
        rw [show tn + (j - tn) = j by omega] at z1
        rw [z1]
        unfold w8
        omega
      · rw [a3 j (by omega)]
        exact t4 j j0 j1
    have C1 : INC sh c1 b o β s n pl q N (4 * i) hi bi si sz bt vl (tn + 20) := by
      obtain ⟨⟨X, P⟩, T, I, -, ⟨-, h3⟩, z1, z2, z3⟩ := C
      have es : sitC c1 12 s := by
        refine ⟨?_, ?_, fun m m0 m1 => ?_⟩
        · rw [e 12 (by decide)]; exact X.2.1.1
        · rw [e 12 (by decide)]; exact X.2.1.2.1
        · rw [e (12 + 1) (by decide)]; exact X.2.1.2.2 m m0 m1
      exact ⟨⟨X.sit3 L1 (a4 2 (by decide)) (fun x a b => e x (by omega)) (fun x a b => e x (by omega)) (fun x a => e x (by omega)) es X.2.2.1.1 X.2.2.1.2.1, P.cg (fun x a b => e x (by omega))⟩, TC.cg ct T (fun x a b => e x (by omega)), I.cg (fun x a b => e x (by omega)), ⟨a1, by omega, T1⟩, ⟨hbo, by rw [a4 3 (by decide)]; exact h3⟩, z1.cg (e _ (by omega)), z2.cg (e _ (by omega)), z3.cg (e _ (by omega))⟩
    have M1 := M.cl L1 e1
    refine g_aload_n (q := 254) dL_law_253 rfl rfl ?_
    refine g_aload_n (q := 255) dL_law_254 rfl rfl ?_
    refine g_iload_n (q := 256) dL_law_255 rfl rfl ?_
    refine g_iconst (q := 257) dL_law_256 rfl ?_
    refine g_iadd (q := 258) dL_law_257 rfl ?_
    refine g_sld (q := 259) hi0 hiL (by omega) (by omega) dL_law_258 rfl ?_
    refine g_aload_n (q := 260) dL_law_259 rfl rfl ?_
    refine g_iload_n (q := 261) dL_law_260 rfl rfl ?_
    refine g_iconst (q := 262) dL_law_261 rfl ?_
    refine g_iadd (q := 263) dL_law_262 rfl ?_
    refine g_sld (q := 264) hi0 hiL (by omega) (by omega) dL_law_263 rfl ?_
    refine g_aload_n (q := 265) dL_law_264 rfl rfl ?_
    refine g_iload_n (q := 266) dL_law_265 rfl rfl ?_
    refine g_iconst (q := 267) dL_law_266 rfl ?_
    refine g_iadd (q := 268) dL_law_267 rfl ?_
    refine g_sld (q := 269) hi0 hiL (by omega) (by omega) dL_law_268 rfl ?_
    refine g_aload_n (q := 270) dL_law_269 rfl rfl ?_
    refine g_iload_n (q := 271) dL_law_270 rfl rfl ?_
    refine g_iconst (q := 272) dL_law_271 rfl ?_
    refine g_iadd (q := 273) dL_law_272 rfl ?_
    refine g_sld (q := 274) hi0 hiL (by omega) (by omega) dL_law_273 rfl ?_
    refine g_aload_n (q := 275) dL_law_274 rfl rfl ?_
    refine g_iload_n (q := 276) dL_law_275 rfl rfl ?_
    refine g_iconst (q := 277) dL_law_276 rfl ?_
    refine g_iadd (q := 278) dL_law_277 rfl ?_
    refine g_sld (q := 279) hi0 hiL (by omega) (by omega) dL_law_278 rfl ?_
    refine g_callV (q := 282) lL_17 mX12_feed nX12_feed rfl (tw_feed 0 sh _ S L1 M1.2.2.2 t2 t3) (S.at _ rfl) rfl rfl shLe.rf (rmL R (by decide)) (Nat.le_of_ble_eq_true rfl) dL_law_279 rfl rfl (kI fun r2 c2 hp => ?_)
    rcases hp with ⟨h2, -⟩ | ⟨h2, er2, b1, b2, b3, b4, b5⟩
    · exfalso; omega
    · have L2 : LK c2 := by
        intro x k v hv
        by_cases hx : x = 92
        · subst hx
          by_cases hk : k = 0
          · subst hk; cases hv
          · by_cases hk5 : k = 5
            · subst hk5; cases hv
            · rw [b4 k hk hk5]; exact L1 _ _ _ hv
        · by_cases hx1 : x = 95
          · subst hx1
            rw [lkF_none rfl k] at hv
            cases hv
          · rw [b5 x (by simp; omega)]
            exact L1 _ _ _ hv
      have f2 : rfF c1 c2 := fun x hx => b5 x (by simp; omega)
      have M2 : INM c2 β s n pl hi bi si sz bt vl (tn + 20) := ⟨M1.1.eq L2 (b5 93 (by decide)), M1.2.1.eq (b5 111 (by decide)) (b5 112 (by decide)) (b5 113 (by decide)), M1.2.2.1.eq (fun j _ => by rw [b5 93 (by decide)]) (b5 94 (by decide)), b1⟩
      have J2 : JO c2 (tn + 20) := by
        refine ⟨fun j j0 j1 => ?_, ?_, ?_⟩
        · rw [f2 1 (by decide)]
          by_cases hj : j < tn
          · rw [b3 j hj, e1 95 (by decide) (by decide), a3 j (by omega)]
            exact J.1 j j0 hj
          · obtain ⟨z, z1, z2⟩ := a2 (j - tn) (by omega) (by omega)
            have z3 := b2 (j - tn) (by omega) (by omega)
            rw [show tn + (j - tn) = j by omega] at z1 z3
            rw [z3, z1, ← z2]
            unfold w8
            omega
        · rw [b4 13 (by decide) (by decide), f2 64 (by decide), e1 92 (by decide) (by decide), e 64 (by decide)]
          exact J.2.1
        · rw [b4 14 (by decide) (by decide), f2 64 (by decide), e1 92 (by decide) (by decide), e 64 (by decide)]
          exact J.2.2
      have er3 : r = r2 := er.trans er2.symm
      refine g_icmp_eq (q := 285) (tg := 1490) dL_law_282 (by decide) rfl (fun c_282 => ?_) (fun c_282 => ?_)
      · exact kk sh c2 ⟨b, o, β, s, n, pl, q, N, hi, bi, si, sz, bt, vl, tn + 20, (C1.r L2 f2).up (by omega) (by omega), M2, J2, R⟩
      · exact absurd (by rw [er3]) c_282
theorem L_book (hL : L ≤ 3072) (hi0 : 0 ≤ i) (hiL : i + 6 ≤ (L : Int)) (I : INV sh ct (4 * i)) (kk : ∀ sh2 ct2, INV sh2 ct2 (4 * (i + 6)) → G (KL nm b0 L xs) 1490 [some (.inr (.inr (-11))), some (.inr (.inr 0)), some (.inr (.inr 92)), some (.inl i)] [] sh2 ct2) : G (KL nm b0 L xs) 287 [some (.inr (.inr (-11))), some (.inr (.inr 0)), some (.inr (.inr 92)), some (.inl i)] [] sh ct := by
  obtain ⟨b, o, β, s, n, pl, q, N, hi, bi, si, sz, bt, vl, tn, C, M, J, R⟩ := I
  have S := R.1
  obtain ⟨t1, ⟨t2, t3⟩, t4⟩ := C.2.2.2.1
  have hbo := C.bo
  have m5 := M.2.2.2
  refine g_aload_n (q := 288) dL_law_287 rfl rfl ?_
  refine g_aload_n (q := 289) dL_law_288 rfl rfl ?_
  refine g_iload_n (q := 290) dL_law_289 rfl rfl ?_
  refine g_iconst (q := 291) dL_law_290 rfl ?_
  refine g_iadd (q := 292) dL_law_291 rfl ?_
  refine g_sld (q := 293) hi0 hiL (by omega) (by omega) dL_law_292 rfl ?_
  refine g_callV (q := 296) lL_18 mX11_book nX11_book rfl (x_book 0 sh _ S C.1 (by omega) hbo C.2.2.2.2.1.2 C.2.2.2.2.2.2.1 t4 (by omega) (by omega) (sv_i xs (i + 1))) (S.at _ rfl) rfl rfl shLe.rf (rmL R (by decide)) (Nat.le_of_ble_eq_true rfl) dL_law_293 rfl rfl (kI fun r c1 hp => ?_)
  rcases hp with ⟨h1, er, hc⟩ | ⟨h1, K, Pl, E, T, hTS, a1, ⟨a2, a3⟩, a4, hp, a5⟩
  · subst hc
    refine g_aload_n (q := 297) dL_law_296 rfl rfl ?_
    refine g_aload_n (q := 298) dL_law_297 rfl rfl ?_
    refine g_iload_n (q := 299) dL_law_298 rfl rfl ?_
    refine g_iconst (q := 300) dL_law_299 rfl ?_
    refine g_iadd (q := 301) dL_law_300 rfl ?_
    refine g_sld (q := 302) hi0 hiL (by omega) (by omega) dL_law_301 rfl ?_
    refine g_callV (q := 305) lL_22 mX12_book nX12_book rfl (tw_bookN 0 sh _ S M.L (by omega) (by omega) (sv_i xs (i + 1)) (by rw [m5, ← t1]; exact h1)) (S.at _ rfl) rfl rfl shLe.rf (rmL R (by decide)) (Nat.le_of_ble_eq_true rfl) dL_law_302 rfl rfl (kI fun r2 c2 hp => ?_)
    obtain ⟨er2, hc⟩ := hp
    have f2 : mF c1 c2 := by rw [hc]; exact mF.of0
    have e : r = r2 := er.trans er2.symm
    refine g_icmp_eq (q := 308) (tg := 1490) dL_law_305 (by decide) rfl (fun c_305 => ?_) (fun c_305 => ?_)
    · exact kk sh c2 ⟨b, o, β, s, n, pl, q, N, hi, bi, si, sz, bt, vl, tn, (C.r (f2.L M.L) f2.rf').up (by omega) (by omega), M.k f2, J.k f2, R⟩
    · exact absurd (by rw [e]) c_305
  · have e : ∀ x : Int, x ∉ ([0, 64, 65, 66, o, o + 1, o + 2, o + 3, o + 4, 12, 13, 16, 70, 72, 73, 74] : List Int) → c1 x = ct x := a5
    have e1 : clF ct c1 := fun x a b => e x (by simp; omega)
    have e11 : c1 1 = ct 1 := e 1 (by simp; omega)
    have go : ∀ (b2 o2 : Int) (γ : Bk) (s2 : Sit) (n2 W : Int), W ≤ 4 * i + 1 → INC sh c1 b2 o2 γ s2 n2 pl q N W hi bi si sz bt vl 0 → ((textP T K Pl).1.2.1 = 0 → bkT γ (textP T K Pl)) → (∀ r2 c2, LK c2 → c2 93 = c1 93 → (textP T K Pl).1.2.1 ≠ 0 → r2 = -30 - (textP T K Pl).1.2.1 → r = r2 ∧ MP c2 γ s2 n2 pl) → (∀ r2 c2, (textP T K Pl).1.2.1 = 0 → r2 = (textP T K Pl).2.1 5 → (∀ pl, MP c2 γ (sitP (textP T K Pl)) 0 pl) → r = r2 ∧ MP c2 γ s2 n2 pl) → G (KL nm b0 L xs) 296 [some (.inr (.inr (-11))), some (.inr (.inr 0)), some (.inr (.inr 92)), some (.inl i)] [.inl r] sh c1 := by
      intro b2 o2 γ s2 n2 W hW D1 hγ hh1 hh2
      have L1 := D1.L
      have M1 := M.cl L1 e1
      have hf : tpR c1 (ct 1) (sv xs (i + 1)) := fun j j0 j1 => ⟨by rw [e1 95 (by decide) (by decide)]; exact J.1 j j0 (by omega), t4 j j0 (by omega)⟩
      have m51 := M1.2.2.2
      refine g_aload_n (q := 297) dL_law_296 rfl rfl ?_
      refine g_aload_n (q := 298) dL_law_297 rfl rfl ?_
      refine g_iload_n (q := 299) dL_law_298 rfl rfl ?_
      refine g_iconst (q := 300) dL_law_299 rfl ?_
      refine g_iadd (q := 301) dL_law_300 rfl ?_
      refine g_sld (q := 302) hi0 hiL (by omega) (by omega) dL_law_301 rfl ?_
      refine g_callV (q := 305) lL_22 mX12_book nX12_book rfl (tw_book 0 sh _ S L1 (by omega) (by omega) hf hTS hγ) (S.at _ rfl) rfl rfl shLe.rf (rmL R (by decide)) (Nat.le_of_ble_eq_true rfl) dL_law_302 rfl rfl (kI fun r2 c2 hp => ?_)
      obtain ⟨⟨L2, d5, ⟨d13, d14⟩, hp⟩, f2, f3⟩ := hp
      have f4 : rfF c1 c2 := fun x hx => f2 x (by simp; omega)
      have J2 : JO c2 0 := ⟨fun j j0 j1 => by omega, by rw [d13, f4 64 (by decide), a2], by rw [d14, f4 64 (by decide), a3]⟩
      have hr : r = r2 ∧ MP c2 γ s2 n2 pl := by
        rcases hp with ⟨w, er2, e93⟩ | ⟨w, er2, hM⟩
        · exact hh1 r2 c2 L2 e93 w er2
        · exact hh2 r2 c2 w er2 hM
      obtain ⟨er3, M2⟩ := hr
      have M3 : INM c2 γ s2 n2 pl hi bi si sz bt vl 0 := ⟨M2, M1.2.1.eq (f2 111 (by decide)) (f2 112 (by decide)) (f2 113 (by decide)), M1.2.2.1.eq f3 (f2 94 (by decide)), d5⟩
      refine g_icmp_eq (q := 308) (tg := 1490) dL_law_305 (by decide) rfl (fun c_305 => ?_) (fun c_305 => ?_)
      · exact kk sh c2 ⟨b2, o2, γ, s2, n2, pl, q, N, hi, bi, si, sz, bt, vl, 0, (D1.r L2 f4).up (by omega) (by omega), M3, J2, R⟩
      · exact absurd (by rw [er3]) c_305
    obtain ⟨-, TT, I, -, ⟨-, h3⟩, z1, z2, z3⟩ := C
    have TT1 : TC c1 sz bt vl := TC.cg ct TT (fun x a b => e x (by simp; omega))
    have I1 : IC c1 hi bi si := I.cg (fun x a b => e x (by simp; omega))
    have t5 : txB (c1 1) := by rw [e11]; exact t4
    rcases hp with ⟨w, er, C1, h03⟩ | ⟨w, er, ⟨γ, hγ, C1⟩, zo, h03⟩
    · refine go b o β s n _ (by omega) ⟨C1, TT1, I1, ⟨a1, by omega, t5⟩, ⟨hbo, h03⟩, z1.cg (e _ (by simp; omega)), a4, z3.cg (e _ (by simp; omega))⟩ (fun z => absurd z w) (fun r2 c2 L2 e93 _ er2 => ⟨er.trans er2.symm, (M.cl C1.1.L e1).1.eq L2 e93⟩) (fun r2 c2 z _ _ => absurd z w)
    · exact go o b γ (sitP (textP T K Pl)) 0 _ (by omega) ⟨C1, TT1, I1, ⟨a1, by omega, t5⟩, ⟨by omega, h03⟩, a4, z1.cg (e _ (by simp; omega)), zo⟩ (fun _ => hγ) (fun r2 c2 _ _ z _ => absurd w z) (fun r2 c2 _ er2 hM => ⟨er.trans er2.symm, hM pl⟩)
end
