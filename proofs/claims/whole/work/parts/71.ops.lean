/-! ===== the law's cases ===== -/
abbrev LOC (i : Int32) : List (Option Value) := [some (.ref 1000), some (.ref 0), some (.ref 131), some (.ref 139), some (.ref 140), some (.int i), none, none, none, none]
def LawC (Wk : tW) (kc ks len : Nat) (xs : Nat → Int32) : Prop := Core RL cL_law 10 10 kc ks Wk ∧ (∀ (k n pc q m : Nat) (L : List (Option Value)) (S : List Value) (H : aH), m < len → decode cL_law pc = .ok (.iaload, 1) → pc + 1 = q → Wk k n q L (.int (xs m) :: S) H → Wk k n pc L (.int (nI m) :: .ref 1000 :: S) H) ∧
  (∀ (k n pc q : Nat) (L : List (Option Value)) (S : List Value) (H : aH), decode cL_law pc = .ok (.arraylength, 1) → pc + 1 = q → Wk k n q L (.int (nI len) :: S) H → Wk k n pc L (.ref 1000 :: S) H) ∧
  (∀ (k n pc : Nat) (L : List (Option Value)) (H : aH), k ≤ kc → n ≤ ks → decode cL_law pc = .ok (.ireturn, 1) → Wk k n pc L [.int 1] H)
theorem LawC.sld {Wk : tW} {kc ks len : Nat} {xs : Nat → Int32} (W : LawC Wk kc ks len xs) {k n pc q m : Nat} {L : List (Option Value)} {S : List Value} {H : aH} (hm : m < len) (dg : decode cL_law pc = .ok (.iaload, 1)) (hq : pc + 1 = q) (kk : Wk k n q L (.int (xs m) :: S) H) : Wk k n pc L (.int (nI m) :: .ref 1000 :: S) H := W.2.1 k n pc q m L S H hm dg hq kk
theorem lg_self (x : Int64) : lg_cmp x x = 0 := by
  unfold lg_cmp
  rw [if_neg (by simp), if_pos rfl]
theorem nI_2 (m : Nat) : nI m + 2 = nI (m + 2) := (Int32.ofNat_add m 2).symm
theorem nar_ch {x : Int32} (h : Ch x) : narrow .char (.int x) = .int x := by
  obtain ⟨c, hc, rfl⟩ := h
  show Value.int _ = _
  first | rw [ch_u16 hc] | (congr 1; exact ch_u16 hc) | (congr 1; exact ch_nar hc)

theorem op_0 {Wk : tW} {kc ks len : Nat} {xs : Nat → Int32} (W : LawC Wk kc ks len xs) {X : GS} (R : Rel X) {m k n : Nat} (hm : m + 2 < len) (hk : k + 2 ≤ kc) (hn : n + 12 ≤ ks) (kk : ∀ Y, Rel Y → Wk (k + 2) (n + 12) 1903 (LOC (nI m)) [] (mkH Y)) : Wk k n 192 (LOC (nI m)) [] (mkH X) := by
  have K := W.1

  refine K.aload_n (q := 193) dL_law_192 rfl rfl ?_
  refine K.aload_n (q := 194) dL_law_193 rfl rfl ?_
  refine K.iload (q := 196) dL_law_194 rfl rfl ?_
  refine K.iconst (q := 197) (v := 1) dL_law_196 rfl (by decide) ?_
  refine K.iaddE (q := 198) (z := nI (m + 1)) (nI_1 m) dL_law_197 rfl ?_
  refine W.sld (q := 199) (m := m + 1) (by omega) dL_law_198 rfl ?_
  refine K.aload_n (q := 200) dL_law_199 rfl rfl ?_
  refine K.iload (q := 202) dL_law_200 rfl rfl ?_
  refine K.iconst (q := 203) (v := 2) dL_law_202 rfl (by decide) ?_
  refine K.iaddE (q := 204) (z := nI (m + 2)) (nI_2 m) dL_law_203 rfl ?_
  refine W.sld (q := 205) (m := m + 2) (by omega) dL_law_204 rfl ?_
  refine K.aload_n (q := 206) dL_law_205 rfl rfl ?_
  obtain ⟨z, Z', vb, Y, he, h1, h2, h3, h4⟩ := p_lend R (xs (m + 1)) (xs (m + 2))
  have hc := s_X7_lend X (X.1 0) (xs (m + 1)) (xs (m + 2)) R.okI
  rw [uB_eta] at hc
  refine K.callSH (q := 209) mkL_lend owL_lend swL_lend (by decide) mw_L_114 (L_lend hc he) rfl (by decide) rfl (Nat.le_of_ble_eq_true rfl) hk hn dL_law_206 rfl ?_
  refine K.istore (q := 211) dL_law_209 rfl (by decide) rfl ?_
  refine K.aload_n (q := 212) dL_law_211 rfl rfl ?_
  refine K.aload_n (q := 213) dL_law_212 rfl rfl ?_
  refine K.iload (q := 215) dL_law_213 rfl rfl ?_
  refine K.iconst (q := 216) (v := 1) dL_law_215 rfl (by decide) ?_
  refine K.iaddE (q := 217) (z := nI (m + 1)) (nI_1 m) dL_law_216 rfl ?_
  refine W.sld (q := 218) (m := m + 1) (by omega) dL_law_217 rfl ?_
  refine K.aload_n (q := 219) dL_law_218 rfl rfl ?_
  refine K.iload (q := 221) dL_law_219 rfl rfl ?_
  refine K.iconst (q := 222) (v := 2) dL_law_221 rfl (by decide) ?_
  refine K.iaddE (q := 223) (z := nI (m + 2)) (nI_2 m) dL_law_222 rfl ?_
  refine W.sld (q := 224) (m := m + 2) (by omega) dL_law_223 rfl ?_
  refine K.callV0 (q := 227) mkX8_lend mw_L_119 (s_X8_lend Z' (xs (m + 1)) (xs (m + 2)) h1) rfl (by decide) rfl (lt141 (by decide)) rx131 (Nat.le_of_ble_eq_true rfl) hk hn dL_law_224 rfl ?_
  refine K.istore (q := 229) dL_law_227 rfl (by decide) rfl ?_
  refine K.aload_n (q := 230) dL_law_229 rfl rfl ?_
  refine K.callV0 (q := 233) mkX8_thrown mw_L_120 (s_X8_thrown Y (vo := Y.2.1 19) rfl) rfl (by decide) rfl (lt141 (by decide)) rx131 (Nat.le_of_ble_eq_true rfl) hk hn dL_law_230 rfl ?_
  refine K.iload (q := 235) dL_law_233 rfl rfl ?_
  refine K.icmp_eq (q := 238) (tgt := 240) dL_law_235 rfl (by decide) (fun _ => ?_) (fun c => absurd h2 c)
  refine K.iload (q := 242) dL_law_240 rfl rfl ?_
  refine K.if_ne (q := 245) (tgt := 257) dL_law_242 rfl (by decide) (fun _ => K.drop 6 (K.drop 7 (K.goto (tgt := 1903) dL_law_257 (by decide) (kk Y h4)))) (fun c => ?_)
  obtain ⟨e1, e2⟩ := h3 c
  refine K.aload_n (q := 246) dL_law_245 rfl rfl ?_
  refine K.iconst (q := 247) (v := 0) dL_law_246 rfl (by decide) ?_
  refine K.lal (q := 248) (m := 0) rx139 (lt141 (by decide)) rfl (by decide) (by decide) dL_law_247 rfl ?_
  refine K.iload (q := 250) dL_law_248 rfl rfl ?_
  refine K.i2l (q := 251) dL_law_250 rfl ?_
  refine K.lcmp (q := 252) dL_law_251 rfl ?_
  exact K.if_eq (q := 255) (tgt := 257) dL_law_252 rfl (by decide) (fun _ => K.drop 6 (K.drop 7 (K.goto (tgt := 1903) dL_law_257 (by decide) (kk Y h4)))) (fun c2 => absurd (by rw [e1, e2]; exact lg_self _) c2)
theorem op_1 {Wk : tW} {kc ks len : Nat} {xs : Nat → Int32} (W : LawC Wk kc ks len xs) {X : GS} (R : Rel X) {m k n : Nat} (hm : m + 2 < len) (hk : k + 2 ≤ kc) (hn : n + 12 ≤ ks) (kk : ∀ Y, Rel Y → Wk (k + 2) (n + 12) 1903 (LOC (nI m)) [] (mkH Y)) : Wk k n 260 (LOC (nI m)) [] (mkH X) := by
  have K := W.1

  refine K.aload_n (q := 261) dL_law_260 rfl rfl ?_
  refine K.aload_n (q := 262) dL_law_261 rfl rfl ?_
  refine K.iload (q := 264) dL_law_262 rfl rfl ?_
  refine K.iconst (q := 265) (v := 1) dL_law_264 rfl (by decide) ?_
  refine K.iaddE (q := 266) (z := nI (m + 1)) (nI_1 m) dL_law_265 rfl ?_
  refine W.sld (q := 267) (m := m + 1) (by omega) dL_law_266 rfl ?_
  refine K.aload_n (q := 268) dL_law_267 rfl rfl ?_
  refine K.iload (q := 270) dL_law_268 rfl rfl ?_
  refine K.iconst (q := 271) (v := 2) dL_law_270 rfl (by decide) ?_
  refine K.iaddE (q := 272) (z := nI (m + 2)) (nI_2 m) dL_law_271 rfl ?_
  refine W.sld (q := 273) (m := m + 2) (by omega) dL_law_272 rfl ?_
  refine K.aload_n (q := 274) dL_law_273 rfl rfl ?_
  obtain ⟨z, Z', vb, Y, he, h1, h2, h3, h4⟩ := p_ask R (xs (m + 1)) (xs (m + 2))
  have hc := s_X7_ask X (X.1 0) (xs (m + 1)) (xs (m + 2)) R.okI
  rw [uB_eta] at hc
  refine K.callSH (q := 277) mkL_ask owL_ask swL_ask (by decide) mw_L_123 (L_ask hc he) rfl (by decide) rfl (Nat.le_of_ble_eq_true rfl) hk hn dL_law_274 rfl ?_
  refine K.istore (q := 279) dL_law_277 rfl (by decide) rfl ?_
  refine K.aload_n (q := 280) dL_law_279 rfl rfl ?_
  refine K.aload_n (q := 281) dL_law_280 rfl rfl ?_
  refine K.iload (q := 283) dL_law_281 rfl rfl ?_
  refine K.iconst (q := 284) (v := 1) dL_law_283 rfl (by decide) ?_
  refine K.iaddE (q := 285) (z := nI (m + 1)) (nI_1 m) dL_law_284 rfl ?_
  refine W.sld (q := 286) (m := m + 1) (by omega) dL_law_285 rfl ?_
  refine K.aload_n (q := 287) dL_law_286 rfl rfl ?_
  refine K.iload (q := 289) dL_law_287 rfl rfl ?_
  refine K.iconst (q := 290) (v := 2) dL_law_289 rfl (by decide) ?_
  refine K.iaddE (q := 291) (z := nI (m + 2)) (nI_2 m) dL_law_290 rfl ?_
  refine W.sld (q := 292) (m := m + 2) (by omega) dL_law_291 rfl ?_
  refine K.callV0 (q := 295) mkX8_ask mw_L_125 (s_X8_ask Z' (xs (m + 1)) (xs (m + 2)) h1) rfl (by decide) rfl (lt141 (by decide)) rx131 (Nat.le_of_ble_eq_true rfl) hk hn dL_law_292 rfl ?_
  refine K.istore (q := 297) dL_law_295 rfl (by decide) rfl ?_
  refine K.aload_n (q := 298) dL_law_297 rfl rfl ?_
  refine K.callV0 (q := 301) mkX8_thrown mw_L_120 (s_X8_thrown Y (vo := Y.2.1 19) rfl) rfl (by decide) rfl (lt141 (by decide)) rx131 (Nat.le_of_ble_eq_true rfl) hk hn dL_law_298 rfl ?_
  refine K.iload (q := 303) dL_law_301 rfl rfl ?_
  refine K.icmp_eq (q := 306) (tgt := 308) dL_law_303 rfl (by decide) (fun _ => ?_) (fun c => absurd h2 c)
  refine K.iload (q := 310) dL_law_308 rfl rfl ?_
  refine K.if_ne (q := 313) (tgt := 325) dL_law_310 rfl (by decide) (fun _ => K.drop 6 (K.drop 7 (K.goto (tgt := 1903) dL_law_325 (by decide) (kk Y h4)))) (fun c => ?_)
  obtain ⟨e1, e2⟩ := h3 c
  refine K.aload_n (q := 314) dL_law_313 rfl rfl ?_
  refine K.iconst (q := 315) (v := 0) dL_law_314 rfl (by decide) ?_
  refine K.lal (q := 316) (m := 0) rx139 (lt141 (by decide)) rfl (by decide) (by decide) dL_law_315 rfl ?_
  refine K.iload (q := 318) dL_law_316 rfl rfl ?_
  refine K.i2l (q := 319) dL_law_318 rfl ?_
  refine K.lcmp (q := 320) dL_law_319 rfl ?_
  exact K.if_eq (q := 323) (tgt := 325) dL_law_320 rfl (by decide) (fun _ => K.drop 6 (K.drop 7 (K.goto (tgt := 1903) dL_law_325 (by decide) (kk Y h4)))) (fun c2 => absurd (by rw [e1, e2]; exact lg_self _) c2)
theorem op_2 {Wk : tW} {kc ks len : Nat} {xs : Nat → Int32} (W : LawC Wk kc ks len xs) {X : GS} (R : Rel X) {m k n : Nat} (hm : m + 2 < len) (hk : k + 2 ≤ kc) (hn : n + 12 ≤ ks) (kk : ∀ Y, Rel Y → Wk (k + 2) (n + 12) 1903 (LOC (nI m)) [] (mkH Y)) : Wk k n 328 (LOC (nI m)) [] (mkH X) := by
  have K := W.1

  refine K.aload_n (q := 329) dL_law_328 rfl rfl ?_
  refine K.aload_n (q := 330) dL_law_329 rfl rfl ?_
  refine K.iload (q := 332) dL_law_330 rfl rfl ?_
  refine K.iconst (q := 333) (v := 1) dL_law_332 rfl (by decide) ?_
  refine K.iaddE (q := 334) (z := nI (m + 1)) (nI_1 m) dL_law_333 rfl ?_
  refine W.sld (q := 335) (m := m + 1) (by omega) dL_law_334 rfl ?_
  refine K.aload_n (q := 336) dL_law_335 rfl rfl ?_
  obtain ⟨z, Z', vb, Y, he, h1, h2, h3, h4⟩ := p_give R (xs (m + 1))
  have hc := s_X7_give X (X.1 0) (xs (m + 1)) R.okI
  rw [uB_eta] at hc
  refine K.callSH (q := 339) mkL_give owL_give swL_give (by decide) mw_L_126 (L_give hc he) rfl (by decide) rfl (Nat.le_of_ble_eq_true rfl) hk hn dL_law_336 rfl ?_
  refine K.istore (q := 341) dL_law_339 rfl (by decide) rfl ?_
  refine K.aload_n (q := 342) dL_law_341 rfl rfl ?_
  refine K.aload_n (q := 343) dL_law_342 rfl rfl ?_
  refine K.iload (q := 345) dL_law_343 rfl rfl ?_
  refine K.iconst (q := 346) (v := 1) dL_law_345 rfl (by decide) ?_
  refine K.iaddE (q := 347) (z := nI (m + 1)) (nI_1 m) dL_law_346 rfl ?_
  refine W.sld (q := 348) (m := m + 1) (by omega) dL_law_347 rfl ?_
  refine K.callV0 (q := 351) mkX8_give mw_L_129 (s_X8_give Z' (xs (m + 1)) h1) rfl (by decide) rfl (lt141 (by decide)) rx131 (Nat.le_of_ble_eq_true rfl) hk hn dL_law_348 rfl ?_
  refine K.istore (q := 353) dL_law_351 rfl (by decide) rfl ?_
  refine K.aload_n (q := 354) dL_law_353 rfl rfl ?_
  refine K.callV0 (q := 357) mkX8_thrown mw_L_120 (s_X8_thrown Y (vo := Y.2.1 19) rfl) rfl (by decide) rfl (lt141 (by decide)) rx131 (Nat.le_of_ble_eq_true rfl) hk hn dL_law_354 rfl ?_
  refine K.iload (q := 359) dL_law_357 rfl rfl ?_
  refine K.icmp_eq (q := 362) (tgt := 364) dL_law_359 rfl (by decide) (fun _ => ?_) (fun c => absurd h2 c)
  refine K.iload (q := 366) dL_law_364 rfl rfl ?_
  refine K.if_ne (q := 369) (tgt := 381) dL_law_366 rfl (by decide) (fun _ => K.drop 6 (K.drop 7 (K.goto (tgt := 1903) dL_law_381 (by decide) (kk Y h4)))) (fun c => ?_)
  obtain ⟨e1, e2⟩ := h3 c
  refine K.aload_n (q := 370) dL_law_369 rfl rfl ?_
  refine K.iconst (q := 371) (v := 0) dL_law_370 rfl (by decide) ?_
  refine K.lal (q := 372) (m := 0) rx139 (lt141 (by decide)) rfl (by decide) (by decide) dL_law_371 rfl ?_
  refine K.iload (q := 374) dL_law_372 rfl rfl ?_
  refine K.i2l (q := 375) dL_law_374 rfl ?_
  refine K.lcmp (q := 376) dL_law_375 rfl ?_
  exact K.if_eq (q := 379) (tgt := 381) dL_law_376 rfl (by decide) (fun _ => K.drop 6 (K.drop 7 (K.goto (tgt := 1903) dL_law_381 (by decide) (kk Y h4)))) (fun c2 => absurd (by rw [e1, e2]; exact lg_self _) c2)
theorem op_3 {Wk : tW} {kc ks len : Nat} {xs : Nat → Int32} (W : LawC Wk kc ks len xs) {X : GS} (R : Rel X) {m k n : Nat} (hm : m + 2 < len) (hk : k + 2 ≤ kc) (hn : n + 12 ≤ ks) (kk : ∀ Y, Rel Y → Wk (k + 2) (n + 12) 1903 (LOC (nI m)) [] (mkH Y)) : Wk k n 384 (LOC (nI m)) [] (mkH X) := by
  have K := W.1

  refine K.aload_n (q := 385) dL_law_384 rfl rfl ?_
  refine K.aload_n (q := 386) dL_law_385 rfl rfl ?_
  refine K.iload (q := 388) dL_law_386 rfl rfl ?_
  refine K.iconst (q := 389) (v := 1) dL_law_388 rfl (by decide) ?_
  refine K.iaddE (q := 390) (z := nI (m + 1)) (nI_1 m) dL_law_389 rfl ?_
  refine W.sld (q := 391) (m := m + 1) (by omega) dL_law_390 rfl ?_
  refine K.aload_n (q := 392) dL_law_391 rfl rfl ?_
  obtain ⟨z, Z', vb, Y, he, h1, h2, h3, h4⟩ := p_giveAll R (xs (m + 1))
  have hc := s_X7_giveAll X (X.1 0) (xs (m + 1)) R.okI
  rw [uB_eta] at hc
  refine K.callSH (q := 395) mkL_giveAll owL_giveAll swL_giveAll (by decide) mw_L_130 (L_giveAll hc he) rfl (by decide) rfl (Nat.le_of_ble_eq_true rfl) hk hn dL_law_392 rfl ?_
  refine K.istore (q := 397) dL_law_395 rfl (by decide) rfl ?_
  refine K.aload_n (q := 398) dL_law_397 rfl rfl ?_
  refine K.aload_n (q := 399) dL_law_398 rfl rfl ?_
  refine K.iload (q := 401) dL_law_399 rfl rfl ?_
  refine K.iconst (q := 402) (v := 1) dL_law_401 rfl (by decide) ?_
  refine K.iaddE (q := 403) (z := nI (m + 1)) (nI_1 m) dL_law_402 rfl ?_
  refine W.sld (q := 404) (m := m + 1) (by omega) dL_law_403 rfl ?_
  refine K.callV0 (q := 407) mkX8_giveAll mw_L_132 (s_X8_giveAll Z' (xs (m + 1)) h1) rfl (by decide) rfl (lt141 (by decide)) rx131 (Nat.le_of_ble_eq_true rfl) hk hn dL_law_404 rfl ?_
  refine K.istore (q := 409) dL_law_407 rfl (by decide) rfl ?_
  refine K.aload_n (q := 410) dL_law_409 rfl rfl ?_
  refine K.callV0 (q := 413) mkX8_thrown mw_L_120 (s_X8_thrown Y (vo := Y.2.1 19) rfl) rfl (by decide) rfl (lt141 (by decide)) rx131 (Nat.le_of_ble_eq_true rfl) hk hn dL_law_410 rfl ?_
  refine K.iload (q := 415) dL_law_413 rfl rfl ?_
  refine K.icmp_eq (q := 418) (tgt := 420) dL_law_415 rfl (by decide) (fun _ => ?_) (fun c => absurd h2 c)
  refine K.iload (q := 422) dL_law_420 rfl rfl ?_
  refine K.if_ne (q := 425) (tgt := 437) dL_law_422 rfl (by decide) (fun _ => K.drop 6 (K.drop 7 (K.goto (tgt := 1903) dL_law_437 (by decide) (kk Y h4)))) (fun c => ?_)
  obtain ⟨e1, e2⟩ := h3 c
  refine K.aload_n (q := 426) dL_law_425 rfl rfl ?_
  refine K.iconst (q := 427) (v := 0) dL_law_426 rfl (by decide) ?_
  refine K.lal (q := 428) (m := 0) rx139 (lt141 (by decide)) rfl (by decide) (by decide) dL_law_427 rfl ?_
  refine K.iload (q := 430) dL_law_428 rfl rfl ?_
  refine K.i2l (q := 431) dL_law_430 rfl ?_
  refine K.lcmp (q := 432) dL_law_431 rfl ?_
  exact K.if_eq (q := 435) (tgt := 437) dL_law_432 rfl (by decide) (fun _ => K.drop 6 (K.drop 7 (K.goto (tgt := 1903) dL_law_437 (by decide) (kk Y h4)))) (fun c2 => absurd (by rw [e1, e2]; exact lg_self _) c2)
theorem op_4 {Wk : tW} {kc ks len : Nat} {xs : Nat → Int32} (W : LawC Wk kc ks len xs) {X : GS} (R : Rel X) {m k n : Nat} (hm : m + 2 < len) (hk : k + 2 ≤ kc) (hn : n + 12 ≤ ks) (kk : ∀ Y, Rel Y → Wk (k + 2) (n + 12) 1903 (LOC (nI m)) [] (mkH Y)) : Wk k n 440 (LOC (nI m)) [] (mkH X) := by
  have K := W.1

  refine K.aload_n (q := 441) dL_law_440 rfl rfl ?_
  refine K.aload_n (q := 442) dL_law_441 rfl rfl ?_
  refine K.iload (q := 444) dL_law_442 rfl rfl ?_
  refine K.iconst (q := 445) (v := 1) dL_law_444 rfl (by decide) ?_
  refine K.iaddE (q := 446) (z := nI (m + 1)) (nI_1 m) dL_law_445 rfl ?_
  refine W.sld (q := 447) (m := m + 1) (by omega) dL_law_446 rfl ?_
  refine K.aload_n (q := 448) dL_law_447 rfl rfl ?_
  refine K.iload (q := 450) dL_law_448 rfl rfl ?_
  refine K.iconst (q := 451) (v := 2) dL_law_450 rfl (by decide) ?_
  refine K.iaddE (q := 452) (z := nI (m + 2)) (nI_2 m) dL_law_451 rfl ?_
  refine W.sld (q := 453) (m := m + 2) (by omega) dL_law_452 rfl ?_
  refine K.aload_n (q := 454) dL_law_453 rfl rfl ?_
  obtain ⟨z, Z', vb, Y, he, h1, h2, h3, h4⟩ := p_resize R (xs (m + 1)) (xs (m + 2))
  have hc := s_X7_resize X (X.1 0) (xs (m + 1)) (xs (m + 2)) R.okI
  rw [uB_eta] at hc
  refine K.callSH (q := 457) mkL_resize owL_resize swL_resize (by decide) mw_L_133 (L_resize hc he) rfl (by decide) rfl (Nat.le_of_ble_eq_true rfl) hk hn dL_law_454 rfl ?_
  refine K.istore (q := 459) dL_law_457 rfl (by decide) rfl ?_
  refine K.aload_n (q := 460) dL_law_459 rfl rfl ?_
  refine K.aload_n (q := 461) dL_law_460 rfl rfl ?_
  refine K.iload (q := 463) dL_law_461 rfl rfl ?_
  refine K.iconst (q := 464) (v := 1) dL_law_463 rfl (by decide) ?_
  refine K.iaddE (q := 465) (z := nI (m + 1)) (nI_1 m) dL_law_464 rfl ?_
  refine W.sld (q := 466) (m := m + 1) (by omega) dL_law_465 rfl ?_
  refine K.aload_n (q := 467) dL_law_466 rfl rfl ?_
  refine K.iload (q := 469) dL_law_467 rfl rfl ?_
  refine K.iconst (q := 470) (v := 2) dL_law_469 rfl (by decide) ?_
  refine K.iaddE (q := 471) (z := nI (m + 2)) (nI_2 m) dL_law_470 rfl ?_
  refine W.sld (q := 472) (m := m + 2) (by omega) dL_law_471 rfl ?_
  refine K.callV0 (q := 475) mkX8_resize mw_L_135 (s_X8_resize Z' (xs (m + 1)) (xs (m + 2)) h1) rfl (by decide) rfl (lt141 (by decide)) rx131 (Nat.le_of_ble_eq_true rfl) hk hn dL_law_472 rfl ?_
  refine K.istore (q := 477) dL_law_475 rfl (by decide) rfl ?_
  refine K.aload_n (q := 478) dL_law_477 rfl rfl ?_
  refine K.callV0 (q := 481) mkX8_thrown mw_L_120 (s_X8_thrown Y (vo := Y.2.1 19) rfl) rfl (by decide) rfl (lt141 (by decide)) rx131 (Nat.le_of_ble_eq_true rfl) hk hn dL_law_478 rfl ?_
  refine K.iload (q := 483) dL_law_481 rfl rfl ?_
  refine K.icmp_eq (q := 486) (tgt := 488) dL_law_483 rfl (by decide) (fun _ => ?_) (fun c => absurd h2 c)
  refine K.iload (q := 490) dL_law_488 rfl rfl ?_
  refine K.if_ne (q := 493) (tgt := 505) dL_law_490 rfl (by decide) (fun _ => K.drop 6 (K.drop 7 (K.goto (tgt := 1903) dL_law_505 (by decide) (kk Y h4)))) (fun c => ?_)
  obtain ⟨e1, e2⟩ := h3 c
  refine K.aload_n (q := 494) dL_law_493 rfl rfl ?_
  refine K.iconst (q := 495) (v := 0) dL_law_494 rfl (by decide) ?_
  refine K.lal (q := 496) (m := 0) rx139 (lt141 (by decide)) rfl (by decide) (by decide) dL_law_495 rfl ?_
  refine K.iload (q := 498) dL_law_496 rfl rfl ?_
  refine K.i2l (q := 499) dL_law_498 rfl ?_
  refine K.lcmp (q := 500) dL_law_499 rfl ?_
  exact K.if_eq (q := 503) (tgt := 505) dL_law_500 rfl (by decide) (fun _ => K.drop 6 (K.drop 7 (K.goto (tgt := 1903) dL_law_505 (by decide) (kk Y h4)))) (fun c2 => absurd (by rw [e1, e2]; exact lg_self _) c2)
theorem op_5 {Wk : tW} {kc ks len : Nat} {xs : Nat → Int32} (W : LawC Wk kc ks len xs) {X : GS} (R : Rel X) {m k n : Nat} (hm : m + 2 < len) (hk : k + 2 ≤ kc) (hn : n + 12 ≤ ks) (kk : ∀ Y, Rel Y → Wk (k + 2) (n + 12) 1903 (LOC (nI m)) [] (mkH Y)) : Wk k n 508 (LOC (nI m)) [] (mkH X) := by
  have K := W.1

  refine K.aload_n (q := 509) dL_law_508 rfl rfl ?_
  refine K.aload_n (q := 510) dL_law_509 rfl rfl ?_
  refine K.iload (q := 512) dL_law_510 rfl rfl ?_
  refine K.iconst (q := 513) (v := 1) dL_law_512 rfl (by decide) ?_
  refine K.iaddE (q := 514) (z := nI (m + 1)) (nI_1 m) dL_law_513 rfl ?_
  refine W.sld (q := 515) (m := m + 1) (by omega) dL_law_514 rfl ?_
  refine K.aload_n (q := 516) dL_law_515 rfl rfl ?_
  obtain ⟨z, Z', vb, Y, he, h1, h2, h3, h4⟩ := p_way R (xs (m + 1))
  have hc := s_X7_way X (X.1 0) (xs (m + 1)) R.okI
  rw [uB_eta] at hc
  refine K.callSH (q := 519) mkL_way owL_way swL_way (by decide) mw_L_136 (L_way hc he) rfl (by decide) rfl (Nat.le_of_ble_eq_true rfl) hk hn dL_law_516 rfl ?_
  refine K.istore (q := 521) dL_law_519 rfl (by decide) rfl ?_
  refine K.aload_n (q := 522) dL_law_521 rfl rfl ?_
  refine K.aload_n (q := 523) dL_law_522 rfl rfl ?_
  refine K.iload (q := 525) dL_law_523 rfl rfl ?_
  refine K.iconst (q := 526) (v := 1) dL_law_525 rfl (by decide) ?_
  refine K.iaddE (q := 527) (z := nI (m + 1)) (nI_1 m) dL_law_526 rfl ?_
  refine W.sld (q := 528) (m := m + 1) (by omega) dL_law_527 rfl ?_
  refine K.callV0 (q := 531) mkX8_way mw_L_138 (s_X8_way Z' (xs (m + 1)) h1) rfl (by decide) rfl (lt141 (by decide)) rx131 (Nat.le_of_ble_eq_true rfl) hk hn dL_law_528 rfl ?_
  refine K.istore (q := 533) dL_law_531 rfl (by decide) rfl ?_
  refine K.aload_n (q := 534) dL_law_533 rfl rfl ?_
  refine K.callV0 (q := 537) mkX8_thrown mw_L_120 (s_X8_thrown Y (vo := Y.2.1 19) rfl) rfl (by decide) rfl (lt141 (by decide)) rx131 (Nat.le_of_ble_eq_true rfl) hk hn dL_law_534 rfl ?_
  refine K.iload (q := 539) dL_law_537 rfl rfl ?_
  refine K.icmp_eq (q := 542) (tgt := 544) dL_law_539 rfl (by decide) (fun _ => ?_) (fun c => absurd h2 c)
  refine K.iload (q := 546) dL_law_544 rfl rfl ?_
  refine K.if_ne (q := 549) (tgt := 561) dL_law_546 rfl (by decide) (fun _ => K.drop 6 (K.drop 7 (K.goto (tgt := 1903) dL_law_561 (by decide) (kk Y h4)))) (fun c => ?_)
  obtain ⟨e1, e2⟩ := h3 c
  refine K.aload_n (q := 550) dL_law_549 rfl rfl ?_
  refine K.iconst (q := 551) (v := 0) dL_law_550 rfl (by decide) ?_
  refine K.lal (q := 552) (m := 0) rx139 (lt141 (by decide)) rfl (by decide) (by decide) dL_law_551 rfl ?_
  refine K.iload (q := 554) dL_law_552 rfl rfl ?_
  refine K.i2l (q := 555) dL_law_554 rfl ?_
  refine K.lcmp (q := 556) dL_law_555 rfl ?_
  exact K.if_eq (q := 559) (tgt := 561) dL_law_556 rfl (by decide) (fun _ => K.drop 6 (K.drop 7 (K.goto (tgt := 1903) dL_law_561 (by decide) (kk Y h4)))) (fun c2 => absurd (by rw [e1, e2]; exact lg_self _) c2)
theorem op_6 {Wk : tW} {kc ks len : Nat} {xs : Nat → Int32} (W : LawC Wk kc ks len xs) {X : GS} (R : Rel X) {m k n : Nat} (hm : m + 2 < len) (hk : k + 2 ≤ kc) (hn : n + 12 ≤ ks) (kk : ∀ Y, Rel Y → Wk (k + 2) (n + 12) 1903 (LOC (nI m)) [] (mkH Y)) : Wk k n 564 (LOC (nI m)) [] (mkH X) := by
  have K := W.1

  refine K.aload_n (q := 565) dL_law_564 rfl rfl ?_
  refine K.aload_n (q := 566) dL_law_565 rfl rfl ?_
  refine K.iload (q := 568) dL_law_566 rfl rfl ?_
  refine K.iconst (q := 569) (v := 1) dL_law_568 rfl (by decide) ?_
  refine K.iaddE (q := 570) (z := nI (m + 1)) (nI_1 m) dL_law_569 rfl ?_
  refine W.sld (q := 571) (m := m + 1) (by omega) dL_law_570 rfl ?_
  refine K.aload_n (q := 572) dL_law_571 rfl rfl ?_
  obtain ⟨z, Z', vb, Y, he, h1, h2, h3, h4⟩ := p_forget R (xs (m + 1))
  have hc := s_X7_forget X (X.1 0) (xs (m + 1)) R.okI
  rw [uB_eta] at hc
  refine K.callSH (q := 575) mkL_forget owL_forget swL_forget (by decide) mw_L_139 (L_forget hc he) rfl (by decide) rfl (Nat.le_of_ble_eq_true rfl) hk hn dL_law_572 rfl ?_
  refine K.istore (q := 577) dL_law_575 rfl (by decide) rfl ?_
  refine K.aload_n (q := 578) dL_law_577 rfl rfl ?_
  refine K.aload_n (q := 579) dL_law_578 rfl rfl ?_
  refine K.iload (q := 581) dL_law_579 rfl rfl ?_
  refine K.iconst (q := 582) (v := 1) dL_law_581 rfl (by decide) ?_
  refine K.iaddE (q := 583) (z := nI (m + 1)) (nI_1 m) dL_law_582 rfl ?_
  refine W.sld (q := 584) (m := m + 1) (by omega) dL_law_583 rfl ?_
  refine K.callV0 (q := 587) mkX8_forget mw_L_141 (s_X8_forget Z' (xs (m + 1)) h1) rfl (by decide) rfl (lt141 (by decide)) rx131 (Nat.le_of_ble_eq_true rfl) hk hn dL_law_584 rfl ?_
  refine K.istore (q := 589) dL_law_587 rfl (by decide) rfl ?_
  refine K.aload_n (q := 590) dL_law_589 rfl rfl ?_
  refine K.callV0 (q := 593) mkX8_thrown mw_L_120 (s_X8_thrown Y (vo := Y.2.1 19) rfl) rfl (by decide) rfl (lt141 (by decide)) rx131 (Nat.le_of_ble_eq_true rfl) hk hn dL_law_590 rfl ?_
  refine K.iload (q := 595) dL_law_593 rfl rfl ?_
  refine K.icmp_eq (q := 598) (tgt := 600) dL_law_595 rfl (by decide) (fun _ => ?_) (fun c => absurd h2 c)
  refine K.iload (q := 602) dL_law_600 rfl rfl ?_
  refine K.if_ne (q := 605) (tgt := 617) dL_law_602 rfl (by decide) (fun _ => K.drop 6 (K.drop 7 (K.goto (tgt := 1903) dL_law_617 (by decide) (kk Y h4)))) (fun c => ?_)
  obtain ⟨e1, e2⟩ := h3 c
  refine K.aload_n (q := 606) dL_law_605 rfl rfl ?_
  refine K.iconst (q := 607) (v := 0) dL_law_606 rfl (by decide) ?_
  refine K.lal (q := 608) (m := 0) rx139 (lt141 (by decide)) rfl (by decide) (by decide) dL_law_607 rfl ?_
  refine K.iload (q := 610) dL_law_608 rfl rfl ?_
  refine K.i2l (q := 611) dL_law_610 rfl ?_
  refine K.lcmp (q := 612) dL_law_611 rfl ?_
  exact K.if_eq (q := 615) (tgt := 617) dL_law_612 rfl (by decide) (fun _ => K.drop 6 (K.drop 7 (K.goto (tgt := 1903) dL_law_617 (by decide) (kk Y h4)))) (fun c2 => absurd (by rw [e1, e2]; exact lg_self _) c2)
theorem op_7 {Wk : tW} {kc ks len : Nat} {xs : Nat → Int32} (W : LawC Wk kc ks len xs) {X : GS} (R : Rel X) {m k n : Nat} (hm : m + 2 < len) (hk : k + 2 ≤ kc) (hn : n + 12 ≤ ks) (kk : ∀ Y, Rel Y → Wk (k + 2) (n + 12) 1903 (LOC (nI m)) [] (mkH Y)) : Wk k n 620 (LOC (nI m)) [] (mkH X) := by
  have K := W.1

  refine K.aload_n (q := 621) dL_law_620 rfl rfl ?_
  refine K.aload_n (q := 622) dL_law_621 rfl rfl ?_
  refine K.iload (q := 624) dL_law_622 rfl rfl ?_
  refine K.iconst (q := 625) (v := 1) dL_law_624 rfl (by decide) ?_
  refine K.iaddE (q := 626) (z := nI (m + 1)) (nI_1 m) dL_law_625 rfl ?_
  refine W.sld (q := 627) (m := m + 1) (by omega) dL_law_626 rfl ?_
  refine K.aload_n (q := 628) dL_law_627 rfl rfl ?_
  refine K.iload (q := 630) dL_law_628 rfl rfl ?_
  refine K.iconst (q := 631) (v := 2) dL_law_630 rfl (by decide) ?_
  refine K.iaddE (q := 632) (z := nI (m + 2)) (nI_2 m) dL_law_631 rfl ?_
  refine W.sld (q := 633) (m := m + 2) (by omega) dL_law_632 rfl ?_
  refine K.aload_n (q := 634) dL_law_633 rfl rfl ?_
  obtain ⟨z, Z', vb, Y, he, h1, h2, h3, h4⟩ := p_loanOf R (xs (m + 1)) (xs (m + 2))
  have hc := s_X7_loanOf X (X.1 0) (xs (m + 1)) (xs (m + 2))
  rw [uB_eta] at hc
  refine K.callSH (q := 637) mkL_loanOf owL_loanOf swL_loanOf (by decide) mw_L_142 (L_loanOf hc he) rfl (by decide) rfl (Nat.le_of_ble_eq_true rfl) hk hn dL_law_634 rfl ?_
  refine K.istore (q := 639) dL_law_637 rfl (by decide) rfl ?_
  refine K.aload_n (q := 640) dL_law_639 rfl rfl ?_
  refine K.aload_n (q := 641) dL_law_640 rfl rfl ?_
  refine K.iload (q := 643) dL_law_641 rfl rfl ?_
  refine K.iconst (q := 644) (v := 1) dL_law_643 rfl (by decide) ?_
  refine K.iaddE (q := 645) (z := nI (m + 1)) (nI_1 m) dL_law_644 rfl ?_
  refine W.sld (q := 646) (m := m + 1) (by omega) dL_law_645 rfl ?_
  refine K.aload_n (q := 647) dL_law_646 rfl rfl ?_
  refine K.iload (q := 649) dL_law_647 rfl rfl ?_
  refine K.iconst (q := 650) (v := 2) dL_law_649 rfl (by decide) ?_
  refine K.iaddE (q := 651) (z := nI (m + 2)) (nI_2 m) dL_law_650 rfl ?_
  refine W.sld (q := 652) (m := m + 2) (by omega) dL_law_651 rfl ?_
  refine K.callV0 (q := 655) mkX8_loanOf mw_L_144 (s_X8_loanOf Z' (xs (m + 1)) (xs (m + 2)) h1) rfl (by decide) rfl (lt141 (by decide)) rx131 (Nat.le_of_ble_eq_true rfl) hk hn dL_law_652 rfl ?_
  refine K.istore (q := 657) dL_law_655 rfl (by decide) rfl ?_
  refine K.aload_n (q := 658) dL_law_657 rfl rfl ?_
  refine K.callV0 (q := 661) mkX8_thrown mw_L_120 (s_X8_thrown Y (vo := Y.2.1 19) rfl) rfl (by decide) rfl (lt141 (by decide)) rx131 (Nat.le_of_ble_eq_true rfl) hk hn dL_law_658 rfl ?_
  refine K.iload (q := 663) dL_law_661 rfl rfl ?_
  refine K.icmp_eq (q := 666) (tgt := 668) dL_law_663 rfl (by decide) (fun _ => ?_) (fun c => absurd h2 c)
  refine K.iload (q := 670) dL_law_668 rfl rfl ?_
  refine K.if_ne (q := 673) (tgt := 685) dL_law_670 rfl (by decide) (fun _ => K.drop 6 (K.drop 7 (K.goto (tgt := 1903) dL_law_685 (by decide) (kk Y h4)))) (fun c => ?_)
  obtain ⟨e1, e2⟩ := h3 c
  refine K.aload_n (q := 674) dL_law_673 rfl rfl ?_
  refine K.iconst (q := 675) (v := 0) dL_law_674 rfl (by decide) ?_
  refine K.lal (q := 676) (m := 0) rx139 (lt141 (by decide)) rfl (by decide) (by decide) dL_law_675 rfl ?_
  refine K.iload (q := 678) dL_law_676 rfl rfl ?_
  refine K.i2l (q := 679) dL_law_678 rfl ?_
  refine K.lcmp (q := 680) dL_law_679 rfl ?_
  exact K.if_eq (q := 683) (tgt := 685) dL_law_680 rfl (by decide) (fun _ => K.drop 6 (K.drop 7 (K.goto (tgt := 1903) dL_law_685 (by decide) (kk Y h4)))) (fun c2 => absurd (by rw [e1, e2]; exact lg_self _) c2)
theorem op_8 {Wk : tW} {kc ks len : Nat} {xs : Nat → Int32} (W : LawC Wk kc ks len xs) {X : GS} (R : Rel X) {m k n : Nat} (hm : m + 2 < len) (hk : k + 2 ≤ kc) (hn : n + 12 ≤ ks) (kk : ∀ Y, Rel Y → Wk (k + 2) (n + 12) 1903 (LOC (nI m)) [] (mkH Y)) : Wk k n 688 (LOC (nI m)) [] (mkH X) := by
  have K := W.1

  refine K.aload_n (q := 689) dL_law_688 rfl rfl ?_
  refine K.aload_n (q := 690) dL_law_689 rfl rfl ?_
  refine K.iload (q := 692) dL_law_690 rfl rfl ?_
  refine K.iconst (q := 693) (v := 1) dL_law_692 rfl (by decide) ?_
  refine K.iaddE (q := 694) (z := nI (m + 1)) (nI_1 m) dL_law_693 rfl ?_
  refine W.sld (q := 695) (m := m + 1) (by omega) dL_law_694 rfl ?_
  refine K.aload_n (q := 696) dL_law_695 rfl rfl ?_
  refine K.iload (q := 698) dL_law_696 rfl rfl ?_
  refine K.iconst (q := 699) (v := 2) dL_law_698 rfl (by decide) ?_
  refine K.iaddE (q := 700) (z := nI (m + 2)) (nI_2 m) dL_law_699 rfl ?_
  refine W.sld (q := 701) (m := m + 2) (by omega) dL_law_700 rfl ?_
  refine K.aload_n (q := 702) dL_law_701 rfl rfl ?_
  obtain ⟨z, Z', vb, Y, he, h1, h2, h3, h4⟩ := p_nameOf R (xs (m + 1)) (xs (m + 2))
  have hc := s_X7_nameOf X (X.1 0) (xs (m + 1)) (xs (m + 2))
  rw [uB_eta] at hc
  refine K.callSH (q := 705) mkL_nameOf owL_nameOf swL_nameOf (by decide) mw_L_145 (L_nameOf hc he) rfl (by decide) rfl (Nat.le_of_ble_eq_true rfl) hk hn dL_law_702 rfl ?_
  refine K.istore (q := 707) dL_law_705 rfl (by decide) rfl ?_
  refine K.aload_n (q := 708) dL_law_707 rfl rfl ?_
  refine K.aload_n (q := 709) dL_law_708 rfl rfl ?_
  refine K.iload (q := 711) dL_law_709 rfl rfl ?_
  refine K.iconst (q := 712) (v := 1) dL_law_711 rfl (by decide) ?_
  refine K.iaddE (q := 713) (z := nI (m + 1)) (nI_1 m) dL_law_712 rfl ?_
  refine W.sld (q := 714) (m := m + 1) (by omega) dL_law_713 rfl ?_
  refine K.aload_n (q := 715) dL_law_714 rfl rfl ?_
  refine K.iload (q := 717) dL_law_715 rfl rfl ?_
  refine K.iconst (q := 718) (v := 2) dL_law_717 rfl (by decide) ?_
  refine K.iaddE (q := 719) (z := nI (m + 2)) (nI_2 m) dL_law_718 rfl ?_
  refine W.sld (q := 720) (m := m + 2) (by omega) dL_law_719 rfl ?_
  refine K.callV0 (q := 723) mkX8_nameOf mw_L_147 (s_X8_nameOf Z' (xs (m + 1)) (xs (m + 2)) h1) rfl (by decide) rfl (lt141 (by decide)) rx131 (Nat.le_of_ble_eq_true rfl) hk hn dL_law_720 rfl ?_
  refine K.istore (q := 725) dL_law_723 rfl (by decide) rfl ?_
  refine K.aload_n (q := 726) dL_law_725 rfl rfl ?_
  refine K.callV0 (q := 729) mkX8_thrown mw_L_120 (s_X8_thrown Y (vo := Y.2.1 19) rfl) rfl (by decide) rfl (lt141 (by decide)) rx131 (Nat.le_of_ble_eq_true rfl) hk hn dL_law_726 rfl ?_
  refine K.iload (q := 731) dL_law_729 rfl rfl ?_
  refine K.icmp_eq (q := 734) (tgt := 736) dL_law_731 rfl (by decide) (fun _ => ?_) (fun c => absurd h2 c)
  refine K.iload (q := 738) dL_law_736 rfl rfl ?_
  refine K.if_ne (q := 741) (tgt := 753) dL_law_738 rfl (by decide) (fun _ => K.drop 6 (K.drop 7 (K.goto (tgt := 1903) dL_law_753 (by decide) (kk Y h4)))) (fun c => ?_)
  obtain ⟨e1, e2⟩ := h3 c
  refine K.aload_n (q := 742) dL_law_741 rfl rfl ?_
  refine K.iconst (q := 743) (v := 0) dL_law_742 rfl (by decide) ?_
  refine K.lal (q := 744) (m := 0) rx139 (lt141 (by decide)) rfl (by decide) (by decide) dL_law_743 rfl ?_
  refine K.iload (q := 746) dL_law_744 rfl rfl ?_
  refine K.i2l (q := 747) dL_law_746 rfl ?_
  refine K.lcmp (q := 748) dL_law_747 rfl ?_
  exact K.if_eq (q := 751) (tgt := 753) dL_law_748 rfl (by decide) (fun _ => K.drop 6 (K.drop 7 (K.goto (tgt := 1903) dL_law_753 (by decide) (kk Y h4)))) (fun c2 => absurd (by rw [e1, e2]; exact lg_self _) c2)
theorem op_9 {Wk : tW} {kc ks len : Nat} {xs : Nat → Int32} (W : LawC Wk kc ks len xs) {X : GS} (R : Rel X) {m k n : Nat} (hm : m + 2 < len) (hk : k + 2 ≤ kc) (hn : n + 12 ≤ ks) (kk : ∀ Y, Rel Y → Wk (k + 2) (n + 12) 1903 (LOC (nI m)) [] (mkH Y)) : Wk k n 756 (LOC (nI m)) [] (mkH X) := by
  have K := W.1

  refine K.aload_n (q := 757) dL_law_756 rfl rfl ?_
  refine K.aload_n (q := 758) dL_law_757 rfl rfl ?_
  refine K.iload (q := 760) dL_law_758 rfl rfl ?_
  refine K.iconst (q := 761) (v := 1) dL_law_760 rfl (by decide) ?_
  refine K.iaddE (q := 762) (z := nI (m + 1)) (nI_1 m) dL_law_761 rfl ?_
  refine W.sld (q := 763) (m := m + 1) (by omega) dL_law_762 rfl ?_
  refine K.aload_n (q := 764) dL_law_763 rfl rfl ?_
  refine K.iload (q := 766) dL_law_764 rfl rfl ?_
  refine K.iconst (q := 767) (v := 2) dL_law_766 rfl (by decide) ?_
  refine K.iaddE (q := 768) (z := nI (m + 2)) (nI_2 m) dL_law_767 rfl ?_
  refine W.sld (q := 769) (m := m + 2) (by omega) dL_law_768 rfl ?_
  refine K.aload_n (q := 770) dL_law_769 rfl rfl ?_
  obtain ⟨z, Z', vb, Y, he, h1, h2, h3, h4⟩ := p_waitingOf R (xs (m + 1)) (xs (m + 2))
  have hc := s_X7_waitingOf X (X.1 0) (xs (m + 1)) (xs (m + 2))
  rw [uB_eta] at hc
  refine K.callSH (q := 773) mkL_waitingOf owL_waitingOf swL_waitingOf (by decide) mw_L_148 (L_waitingOf hc he) rfl (by decide) rfl (Nat.le_of_ble_eq_true rfl) hk hn dL_law_770 rfl ?_
  refine K.istore (q := 775) dL_law_773 rfl (by decide) rfl ?_
  refine K.aload_n (q := 776) dL_law_775 rfl rfl ?_
  refine K.aload_n (q := 777) dL_law_776 rfl rfl ?_
  refine K.iload (q := 779) dL_law_777 rfl rfl ?_
  refine K.iconst (q := 780) (v := 1) dL_law_779 rfl (by decide) ?_
  refine K.iaddE (q := 781) (z := nI (m + 1)) (nI_1 m) dL_law_780 rfl ?_
  refine W.sld (q := 782) (m := m + 1) (by omega) dL_law_781 rfl ?_
  refine K.aload_n (q := 783) dL_law_782 rfl rfl ?_
  refine K.iload (q := 785) dL_law_783 rfl rfl ?_
  refine K.iconst (q := 786) (v := 2) dL_law_785 rfl (by decide) ?_
  refine K.iaddE (q := 787) (z := nI (m + 2)) (nI_2 m) dL_law_786 rfl ?_
  refine W.sld (q := 788) (m := m + 2) (by omega) dL_law_787 rfl ?_
  refine K.callV0 (q := 791) mkX8_waitingOf mw_L_150 (s_X8_waitingOf Z' (xs (m + 1)) (xs (m + 2)) h1) rfl (by decide) rfl (lt141 (by decide)) rx131 (Nat.le_of_ble_eq_true rfl) hk hn dL_law_788 rfl ?_
  refine K.istore (q := 793) dL_law_791 rfl (by decide) rfl ?_
  refine K.aload_n (q := 794) dL_law_793 rfl rfl ?_
  refine K.callV0 (q := 797) mkX8_thrown mw_L_120 (s_X8_thrown Y (vo := Y.2.1 19) rfl) rfl (by decide) rfl (lt141 (by decide)) rx131 (Nat.le_of_ble_eq_true rfl) hk hn dL_law_794 rfl ?_
  refine K.iload (q := 799) dL_law_797 rfl rfl ?_
  refine K.icmp_eq (q := 802) (tgt := 804) dL_law_799 rfl (by decide) (fun _ => ?_) (fun c => absurd h2 c)
  refine K.iload (q := 806) dL_law_804 rfl rfl ?_
  refine K.if_ne (q := 809) (tgt := 821) dL_law_806 rfl (by decide) (fun _ => K.drop 6 (K.drop 7 (K.goto (tgt := 1903) dL_law_821 (by decide) (kk Y h4)))) (fun c => ?_)
  obtain ⟨e1, e2⟩ := h3 c
  refine K.aload_n (q := 810) dL_law_809 rfl rfl ?_
  refine K.iconst (q := 811) (v := 0) dL_law_810 rfl (by decide) ?_
  refine K.lal (q := 812) (m := 0) rx139 (lt141 (by decide)) rfl (by decide) (by decide) dL_law_811 rfl ?_
  refine K.iload (q := 814) dL_law_812 rfl rfl ?_
  refine K.i2l (q := 815) dL_law_814 rfl ?_
  refine K.lcmp (q := 816) dL_law_815 rfl ?_
  exact K.if_eq (q := 819) (tgt := 821) dL_law_816 rfl (by decide) (fun _ => K.drop 6 (K.drop 7 (K.goto (tgt := 1903) dL_law_821 (by decide) (kk Y h4)))) (fun c2 => absurd (by rw [e1, e2]; exact lg_self _) c2)
theorem op_10 {Wk : tW} {kc ks len : Nat} {xs : Nat → Int32} (W : LawC Wk kc ks len xs) {X : GS} (R : Rel X) {m k n : Nat} (hm : m + 2 < len) (hk : k + 2 ≤ kc) (hn : n + 12 ≤ ks) (kk : ∀ Y, Rel Y → Wk (k + 2) (n + 12) 1903 (LOC (nI m)) [] (mkH Y)) : Wk k n 824 (LOC (nI m)) [] (mkH X) := by
  have K := W.1

  refine K.aload_n (q := 825) dL_law_824 rfl rfl ?_
  refine K.aload_n (q := 826) dL_law_825 rfl rfl ?_
  refine K.iload (q := 828) dL_law_826 rfl rfl ?_
  refine K.iconst (q := 829) (v := 1) dL_law_828 rfl (by decide) ?_
  refine K.iaddE (q := 830) (z := nI (m + 1)) (nI_1 m) dL_law_829 rfl ?_
  refine W.sld (q := 831) (m := m + 1) (by omega) dL_law_830 rfl ?_
  refine K.aload_n (q := 832) dL_law_831 rfl rfl ?_
  refine K.iload (q := 834) dL_law_832 rfl rfl ?_
  refine K.iconst (q := 835) (v := 2) dL_law_834 rfl (by decide) ?_
  refine K.iaddE (q := 836) (z := nI (m + 2)) (nI_2 m) dL_law_835 rfl ?_
  refine W.sld (q := 837) (m := m + 2) (by omega) dL_law_836 rfl ?_
  refine K.aload_n (q := 838) dL_law_837 rfl rfl ?_
  obtain ⟨z, Z', vb, Y, he, h1, h2, h3, h4⟩ := p_pieceOf R (xs (m + 1)) (xs (m + 2))
  have hc := s_X7_pieceOf X (X.1 0) (xs (m + 1)) (xs (m + 2))
  rw [uB_eta] at hc
  refine K.callSH (q := 841) mkL_pieceOf owL_pieceOf swL_pieceOf (by decide) mw_L_151 (L_pieceOf hc he) rfl (by decide) rfl (Nat.le_of_ble_eq_true rfl) hk hn dL_law_838 rfl ?_
  refine K.istore (q := 843) dL_law_841 rfl (by decide) rfl ?_
  refine K.aload_n (q := 844) dL_law_843 rfl rfl ?_
  refine K.aload_n (q := 845) dL_law_844 rfl rfl ?_
  refine K.iload (q := 847) dL_law_845 rfl rfl ?_
  refine K.iconst (q := 848) (v := 1) dL_law_847 rfl (by decide) ?_
  refine K.iaddE (q := 849) (z := nI (m + 1)) (nI_1 m) dL_law_848 rfl ?_
  refine W.sld (q := 850) (m := m + 1) (by omega) dL_law_849 rfl ?_
  refine K.aload_n (q := 851) dL_law_850 rfl rfl ?_
  refine K.iload (q := 853) dL_law_851 rfl rfl ?_
  refine K.iconst (q := 854) (v := 2) dL_law_853 rfl (by decide) ?_
  refine K.iaddE (q := 855) (z := nI (m + 2)) (nI_2 m) dL_law_854 rfl ?_
  refine W.sld (q := 856) (m := m + 2) (by omega) dL_law_855 rfl ?_
  refine K.callV0 (q := 859) mkX8_pieceOf mw_L_153 (s_X8_pieceOf Z' (xs (m + 1)) (xs (m + 2)) h1) rfl (by decide) rfl (lt141 (by decide)) rx131 (Nat.le_of_ble_eq_true rfl) hk hn dL_law_856 rfl ?_
  refine K.istore (q := 861) dL_law_859 rfl (by decide) rfl ?_
  refine K.aload_n (q := 862) dL_law_861 rfl rfl ?_
  refine K.callV0 (q := 865) mkX8_thrown mw_L_120 (s_X8_thrown Y (vo := Y.2.1 19) rfl) rfl (by decide) rfl (lt141 (by decide)) rx131 (Nat.le_of_ble_eq_true rfl) hk hn dL_law_862 rfl ?_
  refine K.iload (q := 867) dL_law_865 rfl rfl ?_
  refine K.icmp_eq (q := 870) (tgt := 872) dL_law_867 rfl (by decide) (fun _ => ?_) (fun c => absurd h2 c)
  refine K.iload (q := 874) dL_law_872 rfl rfl ?_
  refine K.if_ne (q := 877) (tgt := 889) dL_law_874 rfl (by decide) (fun _ => K.drop 6 (K.drop 7 (K.goto (tgt := 1903) dL_law_889 (by decide) (kk Y h4)))) (fun c => ?_)
  obtain ⟨e1, e2⟩ := h3 c
  refine K.aload_n (q := 878) dL_law_877 rfl rfl ?_
  refine K.iconst (q := 879) (v := 0) dL_law_878 rfl (by decide) ?_
  refine K.lal (q := 880) (m := 0) rx139 (lt141 (by decide)) rfl (by decide) (by decide) dL_law_879 rfl ?_
  refine K.iload (q := 882) dL_law_880 rfl rfl ?_
  refine K.i2l (q := 883) dL_law_882 rfl ?_
  refine K.lcmp (q := 884) dL_law_883 rfl ?_
  exact K.if_eq (q := 887) (tgt := 889) dL_law_884 rfl (by decide) (fun _ => K.drop 6 (K.drop 7 (K.goto (tgt := 1903) dL_law_889 (by decide) (kk Y h4)))) (fun c2 => absurd (by rw [e1, e2]; exact lg_self _) c2)
theorem op_11 {Wk : tW} {kc ks len : Nat} {xs : Nat → Int32} (W : LawC Wk kc ks len xs) {X : GS} (R : Rel X) {m k n : Nat} (hm : m + 2 < len) (hk : k + 2 ≤ kc) (hn : n + 12 ≤ ks) (kk : ∀ Y, Rel Y → Wk (k + 2) (n + 12) 1903 (LOC (nI m)) [] (mkH Y)) : Wk k n 892 (LOC (nI m)) [] (mkH X) := by
  have K := W.1

  refine K.aload_n (q := 893) dL_law_892 rfl rfl ?_
  refine K.aload_n (q := 894) dL_law_893 rfl rfl ?_
  refine K.iload (q := 896) dL_law_894 rfl rfl ?_
  refine K.iconst (q := 897) (v := 1) dL_law_896 rfl (by decide) ?_
  refine K.iaddE (q := 898) (z := nI (m + 1)) (nI_1 m) dL_law_897 rfl ?_
  refine W.sld (q := 899) (m := m + 1) (by omega) dL_law_898 rfl ?_
  refine K.aload_n (q := 900) dL_law_899 rfl rfl ?_
  refine K.iload (q := 902) dL_law_900 rfl rfl ?_
  refine K.iconst (q := 903) (v := 2) dL_law_902 rfl (by decide) ?_
  refine K.iaddE (q := 904) (z := nI (m + 2)) (nI_2 m) dL_law_903 rfl ?_
  refine W.sld (q := 905) (m := m + 2) (by omega) dL_law_904 rfl ?_
  refine K.if_eq (q := 908) (tgt := 912) dL_law_905 rfl (by decide) (fun c0 => ?_) (fun c0 => ?_)
  · refine K.iconst (q := 913) (v := 0) dL_law_912 rfl (by decide) ?_
    refine K.aload_n (q := 914) dL_law_913 rfl rfl ?_
    obtain ⟨z, Z', vb, Y, he, h1, h2, h3, h4⟩ := p_free R (xs (m + 1)) 0
    have hc := s_X7_free X (X.1 0) (xs (m + 1)) 0
    rw [uB_eta] at hc
    refine K.callSH (q := 917) mkL_free owL_free swL_free (by decide) mw_L_154 (L_free hc he) rfl (by decide) rfl (Nat.le_of_ble_eq_true rfl) hk hn dL_law_914 rfl ?_
    refine K.istore (q := 919) dL_law_917 rfl (by decide) rfl ?_
    refine K.aload_n (q := 920) dL_law_919 rfl rfl ?_
    refine K.aload_n (q := 921) dL_law_920 rfl rfl ?_
    refine K.iload (q := 923) dL_law_921 rfl rfl ?_
    refine K.iconst (q := 924) (v := 1) dL_law_923 rfl (by decide) ?_
    refine K.iaddE (q := 925) (z := nI (m + 1)) (nI_1 m) dL_law_924 rfl ?_
    refine W.sld (q := 926) (m := m + 1) (by omega) dL_law_925 rfl ?_
    refine K.aload_n (q := 927) dL_law_926 rfl rfl ?_
    refine K.iload (q := 929) dL_law_927 rfl rfl ?_
    refine K.iconst (q := 930) (v := 2) dL_law_929 rfl (by decide) ?_
    refine K.iaddE (q := 931) (z := nI (m + 2)) (nI_2 m) dL_law_930 rfl ?_
    refine W.sld (q := 932) (m := m + 2) (by omega) dL_law_931 rfl ?_
    refine K.if_eq (q := 935) (tgt := 939) dL_law_932 rfl (by decide) (fun c1 => ?_) (fun c1 => absurd c0 c1)
    refine K.iconst (q := 940) (v := 0) dL_law_939 rfl (by decide) ?_
    refine K.callV0 (q := 943) mkX8_free mw_L_157 (s_X8_free Z' (xs (m + 1)) 0 h1) rfl (by decide) rfl (lt141 (by decide)) rx131 (Nat.le_of_ble_eq_true rfl) hk hn dL_law_940 rfl ?_
    refine K.istore (q := 945) dL_law_943 rfl (by decide) rfl ?_
    refine K.aload_n (q := 946) dL_law_945 rfl rfl ?_
    refine K.callV0 (q := 949) mkX8_thrown mw_L_120 (s_X8_thrown Y (vo := Y.2.1 19) rfl) rfl (by decide) rfl (lt141 (by decide)) rx131 (Nat.le_of_ble_eq_true rfl) hk hn dL_law_946 rfl ?_
    refine K.iload (q := 951) dL_law_949 rfl rfl ?_
    refine K.icmp_eq (q := 954) (tgt := 956) dL_law_951 rfl (by decide) (fun _ => ?_) (fun c => absurd h2 c)
    refine K.iload (q := 958) dL_law_956 rfl rfl ?_
    refine K.if_ne (q := 961) (tgt := 973) dL_law_958 rfl (by decide) (fun _ => K.drop 6 (K.drop 7 (K.goto (tgt := 1903) dL_law_973 (by decide) (kk Y h4)))) (fun c => ?_)
    obtain ⟨e1, e2⟩ := h3 c
    refine K.aload_n (q := 962) dL_law_961 rfl rfl ?_
    refine K.iconst (q := 963) (v := 0) dL_law_962 rfl (by decide) ?_
    refine K.lal (q := 964) (m := 0) rx139 (lt141 (by decide)) rfl (by decide) (by decide) dL_law_963 rfl ?_
    refine K.iload (q := 966) dL_law_964 rfl rfl ?_
    refine K.i2l (q := 967) dL_law_966 rfl ?_
    refine K.lcmp (q := 968) dL_law_967 rfl ?_
    exact K.if_eq (q := 971) (tgt := 973) dL_law_968 rfl (by decide) (fun _ => K.drop 6 (K.drop 7 (K.goto (tgt := 1903) dL_law_973 (by decide) (kk Y h4)))) (fun c2 => absurd (by rw [e1, e2]; exact lg_self _) c2)
  · refine K.iconst (q := 909) (v := 1) dL_law_908 rfl (by decide) ?_
    refine K.goto (tgt := 913) dL_law_909 (by decide) ?_
    refine K.aload_n (q := 914) dL_law_913 rfl rfl ?_
    obtain ⟨z, Z', vb, Y, he, h1, h2, h3, h4⟩ := p_free R (xs (m + 1)) 1
    have hc := s_X7_free X (X.1 0) (xs (m + 1)) 1
    rw [uB_eta] at hc
    refine K.callSH (q := 917) mkL_free owL_free swL_free (by decide) mw_L_154 (L_free hc he) rfl (by decide) rfl (Nat.le_of_ble_eq_true rfl) hk hn dL_law_914 rfl ?_
    refine K.istore (q := 919) dL_law_917 rfl (by decide) rfl ?_
    refine K.aload_n (q := 920) dL_law_919 rfl rfl ?_
    refine K.aload_n (q := 921) dL_law_920 rfl rfl ?_
    refine K.iload (q := 923) dL_law_921 rfl rfl ?_
    refine K.iconst (q := 924) (v := 1) dL_law_923 rfl (by decide) ?_
    refine K.iaddE (q := 925) (z := nI (m + 1)) (nI_1 m) dL_law_924 rfl ?_
    refine W.sld (q := 926) (m := m + 1) (by omega) dL_law_925 rfl ?_
    refine K.aload_n (q := 927) dL_law_926 rfl rfl ?_
    refine K.iload (q := 929) dL_law_927 rfl rfl ?_
    refine K.iconst (q := 930) (v := 2) dL_law_929 rfl (by decide) ?_
    refine K.iaddE (q := 931) (z := nI (m + 2)) (nI_2 m) dL_law_930 rfl ?_
    refine W.sld (q := 932) (m := m + 2) (by omega) dL_law_931 rfl ?_
    refine K.if_eq (q := 935) (tgt := 939) dL_law_932 rfl (by decide) (fun c1 => absurd c1 c0) (fun c1 => ?_)
    refine K.iconst (q := 936) (v := 1) dL_law_935 rfl (by decide) ?_
    refine K.goto (tgt := 940) dL_law_936 (by decide) ?_
    refine K.callV0 (q := 943) mkX8_free mw_L_157 (s_X8_free Z' (xs (m + 1)) 1 h1) rfl (by decide) rfl (lt141 (by decide)) rx131 (Nat.le_of_ble_eq_true rfl) hk hn dL_law_940 rfl ?_
    refine K.istore (q := 945) dL_law_943 rfl (by decide) rfl ?_
    refine K.aload_n (q := 946) dL_law_945 rfl rfl ?_
    refine K.callV0 (q := 949) mkX8_thrown mw_L_120 (s_X8_thrown Y (vo := Y.2.1 19) rfl) rfl (by decide) rfl (lt141 (by decide)) rx131 (Nat.le_of_ble_eq_true rfl) hk hn dL_law_946 rfl ?_
    refine K.iload (q := 951) dL_law_949 rfl rfl ?_
    refine K.icmp_eq (q := 954) (tgt := 956) dL_law_951 rfl (by decide) (fun _ => ?_) (fun c => absurd h2 c)
    refine K.iload (q := 958) dL_law_956 rfl rfl ?_
    refine K.if_ne (q := 961) (tgt := 973) dL_law_958 rfl (by decide) (fun _ => K.drop 6 (K.drop 7 (K.goto (tgt := 1903) dL_law_973 (by decide) (kk Y h4)))) (fun c => ?_)
    obtain ⟨e1, e2⟩ := h3 c
    refine K.aload_n (q := 962) dL_law_961 rfl rfl ?_
    refine K.iconst (q := 963) (v := 0) dL_law_962 rfl (by decide) ?_
    refine K.lal (q := 964) (m := 0) rx139 (lt141 (by decide)) rfl (by decide) (by decide) dL_law_963 rfl ?_
    refine K.iload (q := 966) dL_law_964 rfl rfl ?_
    refine K.i2l (q := 967) dL_law_966 rfl ?_
    refine K.lcmp (q := 968) dL_law_967 rfl ?_
    exact K.if_eq (q := 971) (tgt := 973) dL_law_968 rfl (by decide) (fun _ => K.drop 6 (K.drop 7 (K.goto (tgt := 1903) dL_law_973 (by decide) (kk Y h4)))) (fun c2 => absurd (by rw [e1, e2]; exact lg_self _) c2)
theorem op_12 {Wk : tW} {kc ks len : Nat} {xs : Nat → Int32} (W : LawC Wk kc ks len xs) {X : GS} (R : Rel X) {m k n : Nat} (hm : m + 2 < len) (hk : k + 2 ≤ kc) (hn : n + 12 ≤ ks) (kk : ∀ Y, Rel Y → Wk (k + 2) (n + 12) 1903 (LOC (nI m)) [] (mkH Y)) : Wk k n 976 (LOC (nI m)) [] (mkH X) := by
  have K := W.1

  refine K.aload_n (q := 977) dL_law_976 rfl rfl ?_
  refine K.aload_n (q := 978) dL_law_977 rfl rfl ?_
  obtain ⟨z, Z', vb, Y, he, h1, h2, h3, h4⟩ := p_greatest R
  have hc := s_X7_greatest X (X.1 0)
  rw [uB_eta] at hc
  refine K.callSH (q := 981) mkL_greatest owL_greatest swL_greatest (by decide) mw_L_158 (L_greatest hc he) rfl (by decide) rfl (Nat.le_of_ble_eq_true rfl) hk hn dL_law_978 rfl ?_
  refine K.istore (q := 983) dL_law_981 rfl (by decide) rfl ?_
  refine K.aload_n (q := 984) dL_law_983 rfl rfl ?_
  refine K.callV0 (q := 987) mkX8_greatest mw_L_161 (s_X8_greatest Z' h1) rfl (by decide) rfl (lt141 (by decide)) rx131 (Nat.le_of_ble_eq_true rfl) hk hn dL_law_984 rfl ?_
  refine K.istore (q := 989) dL_law_987 rfl (by decide) rfl ?_
  refine K.aload_n (q := 990) dL_law_989 rfl rfl ?_
  refine K.callV0 (q := 993) mkX8_thrown mw_L_120 (s_X8_thrown Y (vo := Y.2.1 19) rfl) rfl (by decide) rfl (lt141 (by decide)) rx131 (Nat.le_of_ble_eq_true rfl) hk hn dL_law_990 rfl ?_
  refine K.iload (q := 995) dL_law_993 rfl rfl ?_
  refine K.icmp_eq (q := 998) (tgt := 1000) dL_law_995 rfl (by decide) (fun _ => ?_) (fun c => absurd h2 c)
  refine K.iload (q := 1002) dL_law_1000 rfl rfl ?_
  refine K.if_ne (q := 1005) (tgt := 1017) dL_law_1002 rfl (by decide) (fun _ => K.drop 6 (K.drop 7 (K.goto (tgt := 1903) dL_law_1017 (by decide) (kk Y h4)))) (fun c => ?_)
  obtain ⟨e1, e2⟩ := h3 c
  refine K.aload_n (q := 1006) dL_law_1005 rfl rfl ?_
  refine K.iconst (q := 1007) (v := 0) dL_law_1006 rfl (by decide) ?_
  refine K.lal (q := 1008) (m := 0) rx139 (lt141 (by decide)) rfl (by decide) (by decide) dL_law_1007 rfl ?_
  refine K.iload (q := 1010) dL_law_1008 rfl rfl ?_
  refine K.i2l (q := 1011) dL_law_1010 rfl ?_
  refine K.lcmp (q := 1012) dL_law_1011 rfl ?_
  exact K.if_eq (q := 1015) (tgt := 1017) dL_law_1012 rfl (by decide) (fun _ => K.drop 6 (K.drop 7 (K.goto (tgt := 1903) dL_law_1017 (by decide) (kk Y h4)))) (fun c2 => absurd (by rw [e1, e2]; exact lg_self _) c2)
theorem op_13 {Wk : tW} {kc ks len : Nat} {xs : Nat → Int32} (W : LawC Wk kc ks len xs) {X : GS} (R : Rel X) {m k n : Nat} (hm : m + 2 < len) (hk : k + 2 ≤ kc) (hn : n + 12 ≤ ks) (kk : ∀ Y, Rel Y → Wk (k + 2) (n + 12) 1903 (LOC (nI m)) [] (mkH Y)) : Wk k n 1020 (LOC (nI m)) [] (mkH X) := by
  have K := W.1

  refine K.aload_n (q := 1021) dL_law_1020 rfl rfl ?_
  refine K.aload_n (q := 1022) dL_law_1021 rfl rfl ?_
  refine K.iload (q := 1024) dL_law_1022 rfl rfl ?_
  refine K.iconst (q := 1025) (v := 1) dL_law_1024 rfl (by decide) ?_
  refine K.iaddE (q := 1026) (z := nI (m + 1)) (nI_1 m) dL_law_1025 rfl ?_
  refine W.sld (q := 1027) (m := m + 1) (by omega) dL_law_1026 rfl ?_
  refine K.aload_n (q := 1028) dL_law_1027 rfl rfl ?_
  obtain ⟨z, Z', vb, Y, he, h1, h2, h3, h4⟩ := p_would R (xs (m + 1))
  have hc := s_X7_would X (X.1 0) (xs (m + 1))
  rw [uB_eta] at hc
  refine K.callSH (q := 1031) mkL_would owL_would swL_would (by decide) mw_L_162 (L_would hc he) rfl (by decide) rfl (Nat.le_of_ble_eq_true rfl) hk hn dL_law_1028 rfl ?_
  refine K.istore (q := 1033) dL_law_1031 rfl (by decide) rfl ?_
  refine K.aload_n (q := 1034) dL_law_1033 rfl rfl ?_
  refine K.aload_n (q := 1035) dL_law_1034 rfl rfl ?_
  refine K.iload (q := 1037) dL_law_1035 rfl rfl ?_
  refine K.iconst (q := 1038) (v := 1) dL_law_1037 rfl (by decide) ?_
  refine K.iaddE (q := 1039) (z := nI (m + 1)) (nI_1 m) dL_law_1038 rfl ?_
  refine W.sld (q := 1040) (m := m + 1) (by omega) dL_law_1039 rfl ?_
  refine K.callV0 (q := 1043) mkX8_would mw_L_164 (s_X8_would Z' (xs (m + 1)) h1) rfl (by decide) rfl (lt141 (by decide)) rx131 (Nat.le_of_ble_eq_true rfl) hk hn dL_law_1040 rfl ?_
  refine K.istore (q := 1045) dL_law_1043 rfl (by decide) rfl ?_
  refine K.aload_n (q := 1046) dL_law_1045 rfl rfl ?_
  refine K.callV0 (q := 1049) mkX8_thrown mw_L_120 (s_X8_thrown Y (vo := Y.2.1 19) rfl) rfl (by decide) rfl (lt141 (by decide)) rx131 (Nat.le_of_ble_eq_true rfl) hk hn dL_law_1046 rfl ?_
  refine K.iload (q := 1051) dL_law_1049 rfl rfl ?_
  refine K.icmp_eq (q := 1054) (tgt := 1056) dL_law_1051 rfl (by decide) (fun _ => ?_) (fun c => absurd h2 c)
  refine K.iload (q := 1058) dL_law_1056 rfl rfl ?_
  refine K.if_ne (q := 1061) (tgt := 1073) dL_law_1058 rfl (by decide) (fun _ => K.drop 6 (K.drop 7 (K.goto (tgt := 1903) dL_law_1073 (by decide) (kk Y h4)))) (fun c => ?_)
  obtain ⟨e1, e2⟩ := h3 c
  refine K.aload_n (q := 1062) dL_law_1061 rfl rfl ?_
  refine K.iconst (q := 1063) (v := 0) dL_law_1062 rfl (by decide) ?_
  refine K.lal (q := 1064) (m := 0) rx139 (lt141 (by decide)) rfl (by decide) (by decide) dL_law_1063 rfl ?_
  refine K.iload (q := 1066) dL_law_1064 rfl rfl ?_
  refine K.i2l (q := 1067) dL_law_1066 rfl ?_
  refine K.lcmp (q := 1068) dL_law_1067 rfl ?_
  exact K.if_eq (q := 1071) (tgt := 1073) dL_law_1068 rfl (by decide) (fun _ => K.drop 6 (K.drop 7 (K.goto (tgt := 1903) dL_law_1073 (by decide) (kk Y h4)))) (fun c2 => absurd (by rw [e1, e2]; exact lg_self _) c2)
theorem op_14 {Wk : tW} {kc ks len : Nat} {xs : Nat → Int32} (W : LawC Wk kc ks len xs) {X : GS} (R : Rel X) {m k n : Nat} (hm : m + 2 < len) (hk : k + 2 ≤ kc) (hn : n + 12 ≤ ks) (kk : ∀ Y, Rel Y → Wk (k + 2) (n + 12) 1903 (LOC (nI m)) [] (mkH Y)) : Wk k n 1076 (LOC (nI m)) [] (mkH X) := by
  have K := W.1

  refine K.aload_n (q := 1077) dL_law_1076 rfl rfl ?_
  refine K.aload_n (q := 1078) dL_law_1077 rfl rfl ?_
  refine K.iload (q := 1080) dL_law_1078 rfl rfl ?_
  refine K.iconst (q := 1081) (v := 1) dL_law_1080 rfl (by decide) ?_
  refine K.iaddE (q := 1082) (z := nI (m + 1)) (nI_1 m) dL_law_1081 rfl ?_
  refine W.sld (q := 1083) (m := m + 1) (by omega) dL_law_1082 rfl ?_
  refine K.aload_n (q := 1084) dL_law_1083 rfl rfl ?_
  obtain ⟨z, Z', vb, Y, he, h1, h2, h3, h4⟩ := p_cuts R (xs (m + 1))
  have hc := s_X7_cuts X (X.1 0) (xs (m + 1)) (cuts_term _ _ _)
  rw [uB_eta] at hc
  refine K.callSH (q := 1087) mkL_cuts owL_cuts swL_cuts (by decide) mw_L_165 (L_cuts hc he) rfl (by decide) rfl (Nat.le_of_ble_eq_true rfl) hk hn dL_law_1084 rfl ?_
  refine K.istore (q := 1089) dL_law_1087 rfl (by decide) rfl ?_
  refine K.aload_n (q := 1090) dL_law_1089 rfl rfl ?_
  refine K.aload_n (q := 1091) dL_law_1090 rfl rfl ?_
  refine K.iload (q := 1093) dL_law_1091 rfl rfl ?_
  refine K.iconst (q := 1094) (v := 1) dL_law_1093 rfl (by decide) ?_
  refine K.iaddE (q := 1095) (z := nI (m + 1)) (nI_1 m) dL_law_1094 rfl ?_
  refine W.sld (q := 1096) (m := m + 1) (by omega) dL_law_1095 rfl ?_
  refine K.callV0 (q := 1099) mkX8_cuts mw_L_167 (s_X8_cuts Z' (xs (m + 1)) h1) rfl (by decide) rfl (lt141 (by decide)) rx131 (Nat.le_of_ble_eq_true rfl) hk hn dL_law_1096 rfl ?_
  refine K.istore (q := 1101) dL_law_1099 rfl (by decide) rfl ?_
  refine K.aload_n (q := 1102) dL_law_1101 rfl rfl ?_
  refine K.callV0 (q := 1105) mkX8_thrown mw_L_120 (s_X8_thrown Y (vo := Y.2.1 19) rfl) rfl (by decide) rfl (lt141 (by decide)) rx131 (Nat.le_of_ble_eq_true rfl) hk hn dL_law_1102 rfl ?_
  refine K.iload (q := 1107) dL_law_1105 rfl rfl ?_
  refine K.icmp_eq (q := 1110) (tgt := 1112) dL_law_1107 rfl (by decide) (fun _ => ?_) (fun c => absurd h2 c)
  refine K.iload (q := 1114) dL_law_1112 rfl rfl ?_
  refine K.if_ne (q := 1117) (tgt := 1129) dL_law_1114 rfl (by decide) (fun _ => K.drop 6 (K.drop 7 (K.goto (tgt := 1903) dL_law_1129 (by decide) (kk Y h4)))) (fun c => ?_)
  obtain ⟨e1, e2⟩ := h3 c
  refine K.aload_n (q := 1118) dL_law_1117 rfl rfl ?_
  refine K.iconst (q := 1119) (v := 0) dL_law_1118 rfl (by decide) ?_
  refine K.lal (q := 1120) (m := 0) rx139 (lt141 (by decide)) rfl (by decide) (by decide) dL_law_1119 rfl ?_
  refine K.iload (q := 1122) dL_law_1120 rfl rfl ?_
  refine K.i2l (q := 1123) dL_law_1122 rfl ?_
  refine K.lcmp (q := 1124) dL_law_1123 rfl ?_
  exact K.if_eq (q := 1127) (tgt := 1129) dL_law_1124 rfl (by decide) (fun _ => K.drop 6 (K.drop 7 (K.goto (tgt := 1903) dL_law_1129 (by decide) (kk Y h4)))) (fun c2 => absurd (by rw [e1, e2]; exact lg_self _) c2)
theorem op_15 {Wk : tW} {kc ks len : Nat} {xs : Nat → Int32} (W : LawC Wk kc ks len xs) {X : GS} (R : Rel X) {m k n : Nat} (hm : m + 2 < len) (hk : k + 2 ≤ kc) (hn : n + 12 ≤ ks) (kk : ∀ Y, Rel Y → Wk (k + 2) (n + 12) 1903 (LOC (nI m)) [] (mkH Y)) : Wk k n 1132 (LOC (nI m)) [] (mkH X) := by
  have K := W.1

  refine K.aload_n (q := 1133) dL_law_1132 rfl rfl ?_
  refine K.aload_n (q := 1134) dL_law_1133 rfl rfl ?_
  refine K.iload (q := 1136) dL_law_1134 rfl rfl ?_
  refine K.iconst (q := 1137) (v := 1) dL_law_1136 rfl (by decide) ?_
  refine K.iaddE (q := 1138) (z := nI (m + 1)) (nI_1 m) dL_law_1137 rfl ?_
  refine W.sld (q := 1139) (m := m + 1) (by omega) dL_law_1138 rfl ?_
  refine K.aload_n (q := 1140) dL_law_1139 rfl rfl ?_
  obtain ⟨z, Z', vb, Y, he, h1, h2, h3, h4⟩ := p_fits R (xs (m + 1))
  have hc := s_X7_fits X (X.1 0) (xs (m + 1))
  rw [uB_eta] at hc
  refine K.callSH (q := 1143) mkL_fits owL_fits swL_fits (by decide) mw_L_168 (L_fits hc he) rfl (by decide) rfl (Nat.le_of_ble_eq_true rfl) hk hn dL_law_1140 rfl ?_
  refine K.istore (q := 1145) dL_law_1143 rfl (by decide) rfl ?_
  refine K.aload_n (q := 1146) dL_law_1145 rfl rfl ?_
  refine K.aload_n (q := 1147) dL_law_1146 rfl rfl ?_
  refine K.iload (q := 1149) dL_law_1147 rfl rfl ?_
  refine K.iconst (q := 1150) (v := 1) dL_law_1149 rfl (by decide) ?_
  refine K.iaddE (q := 1151) (z := nI (m + 1)) (nI_1 m) dL_law_1150 rfl ?_
  refine W.sld (q := 1152) (m := m + 1) (by omega) dL_law_1151 rfl ?_
  refine K.callV0 (q := 1155) mkX8_fits mw_L_170 (s_X8_fits Z' (xs (m + 1)) h1) rfl (by decide) rfl (lt141 (by decide)) rx131 (Nat.le_of_ble_eq_true rfl) hk hn dL_law_1152 rfl ?_
  refine K.istore (q := 1157) dL_law_1155 rfl (by decide) rfl ?_
  refine K.aload_n (q := 1158) dL_law_1157 rfl rfl ?_
  refine K.callV0 (q := 1161) mkX8_thrown mw_L_120 (s_X8_thrown Y (vo := Y.2.1 19) rfl) rfl (by decide) rfl (lt141 (by decide)) rx131 (Nat.le_of_ble_eq_true rfl) hk hn dL_law_1158 rfl ?_
  refine K.iload (q := 1163) dL_law_1161 rfl rfl ?_
  refine K.icmp_eq (q := 1166) (tgt := 1168) dL_law_1163 rfl (by decide) (fun _ => ?_) (fun c => absurd h2 c)
  refine K.iload (q := 1170) dL_law_1168 rfl rfl ?_
  refine K.if_ne (q := 1173) (tgt := 1185) dL_law_1170 rfl (by decide) (fun _ => K.drop 6 (K.drop 7 (K.goto (tgt := 1903) dL_law_1185 (by decide) (kk Y h4)))) (fun c => ?_)
  obtain ⟨e1, e2⟩ := h3 c
  refine K.aload_n (q := 1174) dL_law_1173 rfl rfl ?_
  refine K.iconst (q := 1175) (v := 0) dL_law_1174 rfl (by decide) ?_
  refine K.lal (q := 1176) (m := 0) rx139 (lt141 (by decide)) rfl (by decide) (by decide) dL_law_1175 rfl ?_
  refine K.iload (q := 1178) dL_law_1176 rfl rfl ?_
  refine K.i2l (q := 1179) dL_law_1178 rfl ?_
  refine K.lcmp (q := 1180) dL_law_1179 rfl ?_
  exact K.if_eq (q := 1183) (tgt := 1185) dL_law_1180 rfl (by decide) (fun _ => K.drop 6 (K.drop 7 (K.goto (tgt := 1903) dL_law_1185 (by decide) (kk Y h4)))) (fun c2 => absurd (by rw [e1, e2]; exact lg_self _) c2)
theorem op_16 {Wk : tW} {kc ks len : Nat} {xs : Nat → Int32} (W : LawC Wk kc ks len xs) {X : GS} (R : Rel X) {m k n : Nat} (hm : m + 2 < len) (hk : k + 2 ≤ kc) (hn : n + 12 ≤ ks) (kk : ∀ Y, Rel Y → Wk (k + 2) (n + 12) 1903 (LOC (nI m)) [] (mkH Y)) : Wk k n 1188 (LOC (nI m)) [] (mkH X) := by
  have K := W.1

  refine K.aload_n (q := 1189) dL_law_1188 rfl rfl ?_
  refine K.aload_n (q := 1190) dL_law_1189 rfl rfl ?_
  refine K.iload (q := 1192) dL_law_1190 rfl rfl ?_
  refine K.iconst (q := 1193) (v := 1) dL_law_1192 rfl (by decide) ?_
  refine K.iaddE (q := 1194) (z := nI (m + 1)) (nI_1 m) dL_law_1193 rfl ?_
  refine W.sld (q := 1195) (m := m + 1) (by omega) dL_law_1194 rfl ?_
  refine K.aload_n (q := 1196) dL_law_1195 rfl rfl ?_
  obtain ⟨z, Z', vb, Y, he, h1, h2, h3, h4⟩ := p_hole R (xs (m + 1))
  have hc := s_X7_hole X (X.1 0) (xs (m + 1))
  rw [uB_eta] at hc
  refine K.callSH (q := 1199) mkL_hole owL_hole swL_hole (by decide) mw_L_171 (L_hole hc he) rfl (by decide) rfl (Nat.le_of_ble_eq_true rfl) hk hn dL_law_1196 rfl ?_
  refine K.istore (q := 1201) dL_law_1199 rfl (by decide) rfl ?_
  refine K.aload_n (q := 1202) dL_law_1201 rfl rfl ?_
  refine K.aload_n (q := 1203) dL_law_1202 rfl rfl ?_
  refine K.iload (q := 1205) dL_law_1203 rfl rfl ?_
  refine K.iconst (q := 1206) (v := 1) dL_law_1205 rfl (by decide) ?_
  refine K.iaddE (q := 1207) (z := nI (m + 1)) (nI_1 m) dL_law_1206 rfl ?_
  refine W.sld (q := 1208) (m := m + 1) (by omega) dL_law_1207 rfl ?_
  refine K.callV0 (q := 1211) mkX8_hole mw_L_173 (s_X8_hole Z' (xs (m + 1)) h1) rfl (by decide) rfl (lt141 (by decide)) rx131 (Nat.le_of_ble_eq_true rfl) hk hn dL_law_1208 rfl ?_
  refine K.istore (q := 1213) dL_law_1211 rfl (by decide) rfl ?_
  refine K.aload_n (q := 1214) dL_law_1213 rfl rfl ?_
  refine K.callV0 (q := 1217) mkX8_thrown mw_L_120 (s_X8_thrown Y (vo := Y.2.1 19) rfl) rfl (by decide) rfl (lt141 (by decide)) rx131 (Nat.le_of_ble_eq_true rfl) hk hn dL_law_1214 rfl ?_
  refine K.iload (q := 1219) dL_law_1217 rfl rfl ?_
  refine K.icmp_eq (q := 1222) (tgt := 1224) dL_law_1219 rfl (by decide) (fun _ => ?_) (fun c => absurd h2 c)
  refine K.iload (q := 1226) dL_law_1224 rfl rfl ?_
  refine K.if_ne (q := 1229) (tgt := 1241) dL_law_1226 rfl (by decide) (fun _ => K.drop 6 (K.drop 7 (K.goto (tgt := 1903) dL_law_1241 (by decide) (kk Y h4)))) (fun c => ?_)
  obtain ⟨e1, e2⟩ := h3 c
  refine K.aload_n (q := 1230) dL_law_1229 rfl rfl ?_
  refine K.iconst (q := 1231) (v := 0) dL_law_1230 rfl (by decide) ?_
  refine K.lal (q := 1232) (m := 0) rx139 (lt141 (by decide)) rfl (by decide) (by decide) dL_law_1231 rfl ?_
  refine K.iload (q := 1234) dL_law_1232 rfl rfl ?_
  refine K.i2l (q := 1235) dL_law_1234 rfl ?_
  refine K.lcmp (q := 1236) dL_law_1235 rfl ?_
  exact K.if_eq (q := 1239) (tgt := 1241) dL_law_1236 rfl (by decide) (fun _ => K.drop 6 (K.drop 7 (K.goto (tgt := 1903) dL_law_1241 (by decide) (kk Y h4)))) (fun c2 => absurd (by rw [e1, e2]; exact lg_self _) c2)
theorem op_17 {Wk : tW} {kc ks len : Nat} {xs : Nat → Int32} (W : LawC Wk kc ks len xs) {X : GS} (R : Rel X) {m k n : Nat} (hm : m + 2 < len) (hk : k + 2 ≤ kc) (hn : n + 12 ≤ ks) (kk : ∀ Y, Rel Y → Wk (k + 2) (n + 12) 1903 (LOC (nI m)) [] (mkH Y)) : Wk k n 1244 (LOC (nI m)) [] (mkH X) := by
  have K := W.1

  refine K.aload_n (q := 1245) dL_law_1244 rfl rfl ?_
  refine K.aload_n (q := 1246) dL_law_1245 rfl rfl ?_
  refine K.iload (q := 1248) dL_law_1246 rfl rfl ?_
  refine K.iconst (q := 1249) (v := 1) dL_law_1248 rfl (by decide) ?_
  refine K.iaddE (q := 1250) (z := nI (m + 1)) (nI_1 m) dL_law_1249 rfl ?_
  refine W.sld (q := 1251) (m := m + 1) (by omega) dL_law_1250 rfl ?_
  refine K.aload_n (q := 1252) dL_law_1251 rfl rfl ?_
  obtain ⟨z, Z', vb, Y, he, h1, h2, h3, h4⟩ := p_inTheWay R (xs (m + 1))
  have hc := s_X7_inTheWay X (X.1 0) (xs (m + 1))
  rw [uB_eta] at hc
  refine K.callSH (q := 1255) mkL_inTheWay owL_inTheWay swL_inTheWay (by decide) mw_L_174 (L_inTheWay hc he) rfl (by decide) rfl (Nat.le_of_ble_eq_true rfl) hk hn dL_law_1252 rfl ?_
  refine K.istore (q := 1257) dL_law_1255 rfl (by decide) rfl ?_
  refine K.aload_n (q := 1258) dL_law_1257 rfl rfl ?_
  refine K.aload_n (q := 1259) dL_law_1258 rfl rfl ?_
  refine K.iload (q := 1261) dL_law_1259 rfl rfl ?_
  refine K.iconst (q := 1262) (v := 1) dL_law_1261 rfl (by decide) ?_
  refine K.iaddE (q := 1263) (z := nI (m + 1)) (nI_1 m) dL_law_1262 rfl ?_
  refine W.sld (q := 1264) (m := m + 1) (by omega) dL_law_1263 rfl ?_
  refine K.callV0 (q := 1267) mkX8_inTheWay mw_L_176 (s_X8_inTheWay Z' (xs (m + 1)) h1) rfl (by decide) rfl (lt141 (by decide)) rx131 (Nat.le_of_ble_eq_true rfl) hk hn dL_law_1264 rfl ?_
  refine K.istore (q := 1269) dL_law_1267 rfl (by decide) rfl ?_
  refine K.aload_n (q := 1270) dL_law_1269 rfl rfl ?_
  refine K.callV0 (q := 1273) mkX8_thrown mw_L_120 (s_X8_thrown Y (vo := Y.2.1 19) rfl) rfl (by decide) rfl (lt141 (by decide)) rx131 (Nat.le_of_ble_eq_true rfl) hk hn dL_law_1270 rfl ?_
  refine K.iload (q := 1275) dL_law_1273 rfl rfl ?_
  refine K.icmp_eq (q := 1278) (tgt := 1280) dL_law_1275 rfl (by decide) (fun _ => ?_) (fun c => absurd h2 c)
  refine K.iload (q := 1282) dL_law_1280 rfl rfl ?_
  refine K.if_ne (q := 1285) (tgt := 1297) dL_law_1282 rfl (by decide) (fun _ => K.drop 6 (K.drop 7 (K.goto (tgt := 1903) dL_law_1297 (by decide) (kk Y h4)))) (fun c => ?_)
  obtain ⟨e1, e2⟩ := h3 c
  refine K.aload_n (q := 1286) dL_law_1285 rfl rfl ?_
  refine K.iconst (q := 1287) (v := 0) dL_law_1286 rfl (by decide) ?_
  refine K.lal (q := 1288) (m := 0) rx139 (lt141 (by decide)) rfl (by decide) (by decide) dL_law_1287 rfl ?_
  refine K.iload (q := 1290) dL_law_1288 rfl rfl ?_
  refine K.i2l (q := 1291) dL_law_1290 rfl ?_
  refine K.lcmp (q := 1292) dL_law_1291 rfl ?_
  exact K.if_eq (q := 1295) (tgt := 1297) dL_law_1292 rfl (by decide) (fun _ => K.drop 6 (K.drop 7 (K.goto (tgt := 1903) dL_law_1297 (by decide) (kk Y h4)))) (fun c2 => absurd (by rw [e1, e2]; exact lg_self _) c2)
theorem op_18 {Wk : tW} {kc ks len : Nat} {xs : Nat → Int32} (W : LawC Wk kc ks len xs) {X : GS} (R : Rel X) {m k n : Nat} (hm : m + 2 < len) (hk : k + 2 ≤ kc) (hn : n + 12 ≤ ks) (kk : ∀ Y, Rel Y → Wk (k + 2) (n + 12) 1903 (LOC (nI m)) [] (mkH Y)) : Wk k n 1300 (LOC (nI m)) [] (mkH X) := by
  have K := W.1

  refine K.aload_n (q := 1301) dL_law_1300 rfl rfl ?_
  refine K.aload_n (q := 1302) dL_law_1301 rfl rfl ?_
  refine K.iload (q := 1304) dL_law_1302 rfl rfl ?_
  refine K.iconst (q := 1305) (v := 1) dL_law_1304 rfl (by decide) ?_
  refine K.iaddE (q := 1306) (z := nI (m + 1)) (nI_1 m) dL_law_1305 rfl ?_
  refine W.sld (q := 1307) (m := m + 1) (by omega) dL_law_1306 rfl ?_
  refine K.aload_n (q := 1308) dL_law_1307 rfl rfl ?_
  obtain ⟨z, Z', vb, Y, he, h1, h2, h3, h4⟩ := p_ranked R (xs (m + 1))
  have hc := s_X7_ranked X (X.1 0) (xs (m + 1))
  rw [uB_eta] at hc
  refine K.callSH (q := 1311) mkL_ranked owL_ranked swL_ranked (by decide) mw_L_177 (L_ranked hc he) rfl (by decide) rfl (Nat.le_of_ble_eq_true rfl) hk hn dL_law_1308 rfl ?_
  refine K.istore (q := 1313) dL_law_1311 rfl (by decide) rfl ?_
  refine K.aload_n (q := 1314) dL_law_1313 rfl rfl ?_
  refine K.aload_n (q := 1315) dL_law_1314 rfl rfl ?_
  refine K.iload (q := 1317) dL_law_1315 rfl rfl ?_
  refine K.iconst (q := 1318) (v := 1) dL_law_1317 rfl (by decide) ?_
  refine K.iaddE (q := 1319) (z := nI (m + 1)) (nI_1 m) dL_law_1318 rfl ?_
  refine W.sld (q := 1320) (m := m + 1) (by omega) dL_law_1319 rfl ?_
  refine K.callV0 (q := 1323) mkX8_ranked mw_L_179 (s_X8_ranked Z' (xs (m + 1)) h1) rfl (by decide) rfl (lt141 (by decide)) rx131 (Nat.le_of_ble_eq_true rfl) hk hn dL_law_1320 rfl ?_
  refine K.istore (q := 1325) dL_law_1323 rfl (by decide) rfl ?_
  refine K.aload_n (q := 1326) dL_law_1325 rfl rfl ?_
  refine K.callV0 (q := 1329) mkX8_thrown mw_L_120 (s_X8_thrown Y (vo := Y.2.1 19) rfl) rfl (by decide) rfl (lt141 (by decide)) rx131 (Nat.le_of_ble_eq_true rfl) hk hn dL_law_1326 rfl ?_
  refine K.iload (q := 1331) dL_law_1329 rfl rfl ?_
  refine K.icmp_eq (q := 1334) (tgt := 1336) dL_law_1331 rfl (by decide) (fun _ => ?_) (fun c => absurd h2 c)
  refine K.iload (q := 1338) dL_law_1336 rfl rfl ?_
  refine K.if_ne (q := 1341) (tgt := 1353) dL_law_1338 rfl (by decide) (fun _ => K.drop 6 (K.drop 7 (K.goto (tgt := 1903) dL_law_1353 (by decide) (kk Y h4)))) (fun c => ?_)
  obtain ⟨e1, e2⟩ := h3 c
  refine K.aload_n (q := 1342) dL_law_1341 rfl rfl ?_
  refine K.iconst (q := 1343) (v := 0) dL_law_1342 rfl (by decide) ?_
  refine K.lal (q := 1344) (m := 0) rx139 (lt141 (by decide)) rfl (by decide) (by decide) dL_law_1343 rfl ?_
  refine K.iload (q := 1346) dL_law_1344 rfl rfl ?_
  refine K.i2l (q := 1347) dL_law_1346 rfl ?_
  refine K.lcmp (q := 1348) dL_law_1347 rfl ?_
  exact K.if_eq (q := 1351) (tgt := 1353) dL_law_1348 rfl (by decide) (fun _ => K.drop 6 (K.drop 7 (K.goto (tgt := 1903) dL_law_1353 (by decide) (kk Y h4)))) (fun c2 => absurd (by rw [e1, e2]; exact lg_self _) c2)
theorem op_21 {Wk : tW} {kc ks len : Nat} {xs : Nat → Int32} (W : LawC Wk kc ks len xs) {X : GS} (R : Rel X) {m k n : Nat} (hm : m + 2 < len) (hk : k + 2 ≤ kc) (hn : n + 12 ≤ ks) (kk : ∀ Y, Rel Y → Wk (k + 2) (n + 12) 1903 (LOC (nI m)) [] (mkH Y)) : Wk k n 1382 (LOC (nI m)) [] (mkH X) := by
  have K := W.1

  refine K.aload_n (q := 1383) dL_law_1382 rfl rfl ?_
  refine K.aload_n (q := 1384) dL_law_1383 rfl rfl ?_
  refine K.iload (q := 1386) dL_law_1384 rfl rfl ?_
  refine K.iconst (q := 1387) (v := 1) dL_law_1386 rfl (by decide) ?_
  refine K.iaddE (q := 1388) (z := nI (m + 1)) (nI_1 m) dL_law_1387 rfl ?_
  refine W.sld (q := 1389) (m := m + 1) (by omega) dL_law_1388 rfl ?_
  refine K.aload_n (q := 1390) dL_law_1389 rfl rfl ?_
  obtain ⟨z, Z', vb, Y, he, h1, h2, h3, h4⟩ := p_character R (xs (m + 1))
  have hc := s_X7_character X (X.1 0) (xs (m + 1)) (fun i => nar_ch (R.ch0 i))
  rw [uB_eta] at hc
  refine K.callSH (q := 1393) mkL_character owL_character swL_character (by decide) mw_L_188 (L_character hc he) rfl (by decide) rfl (Nat.le_of_ble_eq_true rfl) hk hn dL_law_1390 rfl ?_
  refine K.istore (q := 1395) dL_law_1393 rfl (by decide) rfl ?_
  refine K.aload_n (q := 1396) dL_law_1395 rfl rfl ?_
  refine K.aload_n (q := 1397) dL_law_1396 rfl rfl ?_
  refine K.iload (q := 1399) dL_law_1397 rfl rfl ?_
  refine K.iconst (q := 1400) (v := 1) dL_law_1399 rfl (by decide) ?_
  refine K.iaddE (q := 1401) (z := nI (m + 1)) (nI_1 m) dL_law_1400 rfl ?_
  refine W.sld (q := 1402) (m := m + 1) (by omega) dL_law_1401 rfl ?_
  refine K.callV0 (q := 1405) mkX8_character mw_L_190 (s_X8_character Z' (xs (m + 1)) (fun i => nar_ch ((show Rel Z' from by rcases he with ⟨-, -, rfl⟩ | ⟨-, -, rfl⟩; exact R.o _; exact R).ch10 i)) h1) rfl (by decide) rfl (lt141 (by decide)) rx131 (Nat.le_of_ble_eq_true rfl) hk hn dL_law_1402 rfl ?_
  refine K.istore (q := 1407) dL_law_1405 rfl (by decide) rfl ?_
  refine K.aload_n (q := 1408) dL_law_1407 rfl rfl ?_
  refine K.callV0 (q := 1411) mkX8_thrown mw_L_120 (s_X8_thrown Y (vo := Y.2.1 19) rfl) rfl (by decide) rfl (lt141 (by decide)) rx131 (Nat.le_of_ble_eq_true rfl) hk hn dL_law_1408 rfl ?_
  refine K.iload (q := 1413) dL_law_1411 rfl rfl ?_
  refine K.icmp_eq (q := 1416) (tgt := 1418) dL_law_1413 rfl (by decide) (fun _ => ?_) (fun c => absurd h2 c)
  refine K.iload (q := 1420) dL_law_1418 rfl rfl ?_
  refine K.if_ne (q := 1423) (tgt := 1435) dL_law_1420 rfl (by decide) (fun _ => K.drop 6 (K.drop 7 (K.goto (tgt := 1903) dL_law_1435 (by decide) (kk Y h4)))) (fun c => ?_)
  obtain ⟨e1, e2⟩ := h3 c
  refine K.aload_n (q := 1424) dL_law_1423 rfl rfl ?_
  refine K.iconst (q := 1425) (v := 0) dL_law_1424 rfl (by decide) ?_
  refine K.lal (q := 1426) (m := 0) rx139 (lt141 (by decide)) rfl (by decide) (by decide) dL_law_1425 rfl ?_
  refine K.iload (q := 1428) dL_law_1426 rfl rfl ?_
  refine K.i2l (q := 1429) dL_law_1428 rfl ?_
  refine K.lcmp (q := 1430) dL_law_1429 rfl ?_
  exact K.if_eq (q := 1433) (tgt := 1435) dL_law_1430 rfl (by decide) (fun _ => K.drop 6 (K.drop 7 (K.goto (tgt := 1903) dL_law_1435 (by decide) (kk Y h4)))) (fun c2 => absurd (by rw [e1, e2]; exact lg_self _) c2)
theorem op_22 {Wk : tW} {kc ks len : Nat} {xs : Nat → Int32} (W : LawC Wk kc ks len xs) {X : GS} (R : Rel X) {m k n : Nat} (hm : m + 2 < len) (hk : k + 2 ≤ kc) (hn : n + 12 ≤ ks) (kk : ∀ Y, Rel Y → Wk (k + 2) (n + 12) 1903 (LOC (nI m)) [] (mkH Y)) : Wk k n 1438 (LOC (nI m)) [] (mkH X) := by
  have K := W.1

  refine K.aload_n (q := 1439) dL_law_1438 rfl rfl ?_
  refine K.aload_n (q := 1440) dL_law_1439 rfl rfl ?_
  refine K.iload (q := 1442) dL_law_1440 rfl rfl ?_
  refine K.iconst (q := 1443) (v := 1) dL_law_1442 rfl (by decide) ?_
  refine K.iaddE (q := 1444) (z := nI (m + 1)) (nI_1 m) dL_law_1443 rfl ?_
  refine W.sld (q := 1445) (m := m + 1) (by omega) dL_law_1444 rfl ?_
  refine K.i2c (q := 1446) dL_law_1445 rfl ?_
  refine K.aload_n (q := 1447) dL_law_1446 rfl rfl ?_
  obtain ⟨z, Z', vb, Y, he, h1, h2, h3, h4⟩ := p_append R (((xs (m + 1)).toUInt32 % 65536).toInt32) (Ch_u16 _)
  have hc := s_X7_append X (X.1 0) (((xs (m + 1)).toUInt32 % 65536).toInt32)
  rw [uB_eta] at hc
  refine K.callSH (q := 1450) mkL_append owL_append swL_append (by decide) mw_L_191 (L_append hc he) rfl (by decide) rfl (Nat.le_of_ble_eq_true rfl) hk hn dL_law_1447 rfl ?_
  refine K.istore (q := 1452) dL_law_1450 rfl (by decide) rfl ?_
  refine K.aload_n (q := 1453) dL_law_1452 rfl rfl ?_
  refine K.aload_n (q := 1454) dL_law_1453 rfl rfl ?_
  refine K.iload (q := 1456) dL_law_1454 rfl rfl ?_
  refine K.iconst (q := 1457) (v := 1) dL_law_1456 rfl (by decide) ?_
  refine K.iaddE (q := 1458) (z := nI (m + 1)) (nI_1 m) dL_law_1457 rfl ?_
  refine W.sld (q := 1459) (m := m + 1) (by omega) dL_law_1458 rfl ?_
  refine K.i2c (q := 1460) dL_law_1459 rfl ?_
  refine K.callV0 (q := 1463) mkX8_append mw_L_194 (s_X8_append Z' (((xs (m + 1)).toUInt32 % 65536).toInt32) h1) rfl (by decide) rfl (lt141 (by decide)) rx131 (Nat.le_of_ble_eq_true rfl) hk hn dL_law_1460 rfl ?_
  refine K.istore (q := 1465) dL_law_1463 rfl (by decide) rfl ?_
  refine K.aload_n (q := 1466) dL_law_1465 rfl rfl ?_
  refine K.callV0 (q := 1469) mkX8_thrown mw_L_120 (s_X8_thrown Y (vo := Y.2.1 19) rfl) rfl (by decide) rfl (lt141 (by decide)) rx131 (Nat.le_of_ble_eq_true rfl) hk hn dL_law_1466 rfl ?_
  refine K.iload (q := 1471) dL_law_1469 rfl rfl ?_
  refine K.icmp_eq (q := 1474) (tgt := 1476) dL_law_1471 rfl (by decide) (fun _ => ?_) (fun c => absurd h2 c)
  refine K.iload (q := 1478) dL_law_1476 rfl rfl ?_
  refine K.if_ne (q := 1481) (tgt := 1493) dL_law_1478 rfl (by decide) (fun _ => K.drop 6 (K.drop 7 (K.goto (tgt := 1903) dL_law_1493 (by decide) (kk Y h4)))) (fun c => ?_)
  obtain ⟨e1, e2⟩ := h3 c
  refine K.aload_n (q := 1482) dL_law_1481 rfl rfl ?_
  refine K.iconst (q := 1483) (v := 0) dL_law_1482 rfl (by decide) ?_
  refine K.lal (q := 1484) (m := 0) rx139 (lt141 (by decide)) rfl (by decide) (by decide) dL_law_1483 rfl ?_
  refine K.iload (q := 1486) dL_law_1484 rfl rfl ?_
  refine K.i2l (q := 1487) dL_law_1486 rfl ?_
  refine K.lcmp (q := 1488) dL_law_1487 rfl ?_
  exact K.if_eq (q := 1491) (tgt := 1493) dL_law_1488 rfl (by decide) (fun _ => K.drop 6 (K.drop 7 (K.goto (tgt := 1903) dL_law_1493 (by decide) (kk Y h4)))) (fun c2 => absurd (by rw [e1, e2]; exact lg_self _) c2)
theorem op_23 {Wk : tW} {kc ks len : Nat} {xs : Nat → Int32} (W : LawC Wk kc ks len xs) {X : GS} (R : Rel X) {m k n : Nat} (hm : m + 2 < len) (hk : k + 2 ≤ kc) (hn : n + 12 ≤ ks) (kk : ∀ Y, Rel Y → Wk (k + 2) (n + 12) 1903 (LOC (nI m)) [] (mkH Y)) : Wk k n 1496 (LOC (nI m)) [] (mkH X) := by
  have K := W.1

  refine K.aload_n (q := 1497) dL_law_1496 rfl rfl ?_
  refine K.aload_n (q := 1498) dL_law_1497 rfl rfl ?_
  obtain ⟨eo, vo, bo, Xo, hrun, z, Z', vb, Y, he, h1, h2, h3, h4⟩ := p_run R
  have hc := s_X7_run X (X.1 0) R.okI hrun
  rw [uB_eta] at hc
  refine K.callSH (q := 1501) mkL_run owL_run swL_run (by decide) mw_L_195 (L_run hc he) rfl (by decide) rfl (Nat.le_of_ble_eq_true rfl) hk hn dL_law_1498 rfl ?_
  refine K.istore (q := 1503) dL_law_1501 rfl (by decide) rfl ?_
  refine K.aload_n (q := 1504) dL_law_1503 rfl rfl ?_
  refine K.callV0 (q := 1507) mkX8_run mw_L_197 (s_X8_run Z' h1) rfl (by decide) rfl (lt141 (by decide)) rx131 (Nat.le_of_ble_eq_true rfl) hk hn dL_law_1504 rfl ?_
  refine K.istore (q := 1509) dL_law_1507 rfl (by decide) rfl ?_
  refine K.aload_n (q := 1510) dL_law_1509 rfl rfl ?_
  refine K.callV0 (q := 1513) mkX8_thrown mw_L_120 (s_X8_thrown Y (vo := Y.2.1 19) rfl) rfl (by decide) rfl (lt141 (by decide)) rx131 (Nat.le_of_ble_eq_true rfl) hk hn dL_law_1510 rfl ?_
  refine K.iload (q := 1515) dL_law_1513 rfl rfl ?_
  refine K.icmp_eq (q := 1518) (tgt := 1520) dL_law_1515 rfl (by decide) (fun _ => ?_) (fun c => absurd h2 c)
  refine K.iload (q := 1522) dL_law_1520 rfl rfl ?_
  refine K.if_ne (q := 1525) (tgt := 1537) dL_law_1522 rfl (by decide) (fun _ => K.drop 6 (K.drop 7 (K.goto (tgt := 1903) dL_law_1537 (by decide) (kk Y h4)))) (fun c => ?_)
  obtain ⟨e1, e2⟩ := h3 c
  refine K.aload_n (q := 1526) dL_law_1525 rfl rfl ?_
  refine K.iconst (q := 1527) (v := 0) dL_law_1526 rfl (by decide) ?_
  refine K.lal (q := 1528) (m := 0) rx139 (lt141 (by decide)) rfl (by decide) (by decide) dL_law_1527 rfl ?_
  refine K.iload (q := 1530) dL_law_1528 rfl rfl ?_
  refine K.i2l (q := 1531) dL_law_1530 rfl ?_
  refine K.lcmp (q := 1532) dL_law_1531 rfl ?_
  exact K.if_eq (q := 1535) (tgt := 1537) dL_law_1532 rfl (by decide) (fun _ => K.drop 6 (K.drop 7 (K.goto (tgt := 1903) dL_law_1537 (by decide) (kk Y h4)))) (fun c2 => absurd (by rw [e1, e2]; exact lg_self _) c2)
theorem op_25 {Wk : tW} {kc ks len : Nat} {xs : Nat → Int32} (W : LawC Wk kc ks len xs) {X : GS} (R : Rel X) {m k n : Nat} (hm : m + 2 < len) (hk : k + 2 ≤ kc) (hn : n + 12 ≤ ks) (kk : ∀ Y, Rel Y → Wk (k + 2) (n + 12) 1903 (LOC (nI m)) [] (mkH Y)) : Wk k n 1553 (LOC (nI m)) [] (mkH X) := by
  have K := W.1

  refine K.aload_n (q := 1554) dL_law_1553 rfl rfl ?_
  refine K.aload_n (q := 1555) dL_law_1554 rfl rfl ?_
  refine K.iload (q := 1557) dL_law_1555 rfl rfl ?_
  refine K.iconst (q := 1558) (v := 1) dL_law_1557 rfl (by decide) ?_
  refine K.iaddE (q := 1559) (z := nI (m + 1)) (nI_1 m) dL_law_1558 rfl ?_
  refine W.sld (q := 1560) (m := m + 1) (by omega) dL_law_1559 rfl ?_
  refine K.if_eq (q := 1563) (tgt := 1567) dL_law_1560 rfl (by decide) (fun c0 => ?_) (fun c0 => ?_)
  · refine K.iconst (q := 1568) (v := 0) dL_law_1567 rfl (by decide) ?_
    refine K.aload_n (q := 1569) dL_law_1568 rfl rfl ?_
    obtain ⟨z, Z', vb, Y, he, h1, h2, h3, h4⟩ := p_refusal R 0
    have hc := s_X7_refusal X (X.1 0) 0
    rw [uB_eta] at hc
    refine K.callSH (q := 1572) mkL_refusal owL_refusal swL_refusal (by decide) mw_L_202 (L_refusal hc he) rfl (by decide) rfl (Nat.le_of_ble_eq_true rfl) hk hn dL_law_1569 rfl ?_
    refine K.istore (q := 1574) dL_law_1572 rfl (by decide) rfl ?_
    refine K.aload_n (q := 1575) dL_law_1574 rfl rfl ?_
    refine K.aload_n (q := 1576) dL_law_1575 rfl rfl ?_
    refine K.iload (q := 1578) dL_law_1576 rfl rfl ?_
    refine K.iconst (q := 1579) (v := 1) dL_law_1578 rfl (by decide) ?_
    refine K.iaddE (q := 1580) (z := nI (m + 1)) (nI_1 m) dL_law_1579 rfl ?_
    refine W.sld (q := 1581) (m := m + 1) (by omega) dL_law_1580 rfl ?_
    refine K.if_eq (q := 1584) (tgt := 1588) dL_law_1581 rfl (by decide) (fun c1 => ?_) (fun c1 => absurd c0 c1)
    refine K.iconst (q := 1589) (v := 0) dL_law_1588 rfl (by decide) ?_
    refine K.callV0 (q := 1592) mkX8_refusal mw_L_205 (s_X8_refusal Z' 0 h1) rfl (by decide) rfl (lt141 (by decide)) rx131 (Nat.le_of_ble_eq_true rfl) hk hn dL_law_1589 rfl ?_
    refine K.istore (q := 1594) dL_law_1592 rfl (by decide) rfl ?_
    refine K.aload_n (q := 1595) dL_law_1594 rfl rfl ?_
    refine K.callV0 (q := 1598) mkX8_thrown mw_L_120 (s_X8_thrown Y (vo := Y.2.1 19) rfl) rfl (by decide) rfl (lt141 (by decide)) rx131 (Nat.le_of_ble_eq_true rfl) hk hn dL_law_1595 rfl ?_
    refine K.iload (q := 1600) dL_law_1598 rfl rfl ?_
    refine K.icmp_eq (q := 1603) (tgt := 1605) dL_law_1600 rfl (by decide) (fun _ => ?_) (fun c => absurd h2 c)
    refine K.iload (q := 1607) dL_law_1605 rfl rfl ?_
    refine K.if_ne (q := 1610) (tgt := 1622) dL_law_1607 rfl (by decide) (fun _ => K.drop 6 (K.drop 7 (K.goto (tgt := 1903) dL_law_1622 (by decide) (kk Y h4)))) (fun c => ?_)
    obtain ⟨e1, e2⟩ := h3 c
    refine K.aload_n (q := 1611) dL_law_1610 rfl rfl ?_
    refine K.iconst (q := 1612) (v := 0) dL_law_1611 rfl (by decide) ?_
    refine K.lal (q := 1613) (m := 0) rx139 (lt141 (by decide)) rfl (by decide) (by decide) dL_law_1612 rfl ?_
    refine K.iload (q := 1615) dL_law_1613 rfl rfl ?_
    refine K.i2l (q := 1616) dL_law_1615 rfl ?_
    refine K.lcmp (q := 1617) dL_law_1616 rfl ?_
    exact K.if_eq (q := 1620) (tgt := 1622) dL_law_1617 rfl (by decide) (fun _ => K.drop 6 (K.drop 7 (K.goto (tgt := 1903) dL_law_1622 (by decide) (kk Y h4)))) (fun c2 => absurd (by rw [e1, e2]; exact lg_self _) c2)
  · refine K.iconst (q := 1564) (v := 1) dL_law_1563 rfl (by decide) ?_
    refine K.goto (tgt := 1568) dL_law_1564 (by decide) ?_
    refine K.aload_n (q := 1569) dL_law_1568 rfl rfl ?_
    obtain ⟨z, Z', vb, Y, he, h1, h2, h3, h4⟩ := p_refusal R 1
    have hc := s_X7_refusal X (X.1 0) 1
    rw [uB_eta] at hc
    refine K.callSH (q := 1572) mkL_refusal owL_refusal swL_refusal (by decide) mw_L_202 (L_refusal hc he) rfl (by decide) rfl (Nat.le_of_ble_eq_true rfl) hk hn dL_law_1569 rfl ?_
    refine K.istore (q := 1574) dL_law_1572 rfl (by decide) rfl ?_
    refine K.aload_n (q := 1575) dL_law_1574 rfl rfl ?_
    refine K.aload_n (q := 1576) dL_law_1575 rfl rfl ?_
    refine K.iload (q := 1578) dL_law_1576 rfl rfl ?_
    refine K.iconst (q := 1579) (v := 1) dL_law_1578 rfl (by decide) ?_
    refine K.iaddE (q := 1580) (z := nI (m + 1)) (nI_1 m) dL_law_1579 rfl ?_
    refine W.sld (q := 1581) (m := m + 1) (by omega) dL_law_1580 rfl ?_
    refine K.if_eq (q := 1584) (tgt := 1588) dL_law_1581 rfl (by decide) (fun c1 => absurd c1 c0) (fun c1 => ?_)
    refine K.iconst (q := 1585) (v := 1) dL_law_1584 rfl (by decide) ?_
    refine K.goto (tgt := 1589) dL_law_1585 (by decide) ?_
    refine K.callV0 (q := 1592) mkX8_refusal mw_L_205 (s_X8_refusal Z' 1 h1) rfl (by decide) rfl (lt141 (by decide)) rx131 (Nat.le_of_ble_eq_true rfl) hk hn dL_law_1589 rfl ?_
    refine K.istore (q := 1594) dL_law_1592 rfl (by decide) rfl ?_
    refine K.aload_n (q := 1595) dL_law_1594 rfl rfl ?_
    refine K.callV0 (q := 1598) mkX8_thrown mw_L_120 (s_X8_thrown Y (vo := Y.2.1 19) rfl) rfl (by decide) rfl (lt141 (by decide)) rx131 (Nat.le_of_ble_eq_true rfl) hk hn dL_law_1595 rfl ?_
    refine K.iload (q := 1600) dL_law_1598 rfl rfl ?_
    refine K.icmp_eq (q := 1603) (tgt := 1605) dL_law_1600 rfl (by decide) (fun _ => ?_) (fun c => absurd h2 c)
    refine K.iload (q := 1607) dL_law_1605 rfl rfl ?_
    refine K.if_ne (q := 1610) (tgt := 1622) dL_law_1607 rfl (by decide) (fun _ => K.drop 6 (K.drop 7 (K.goto (tgt := 1903) dL_law_1622 (by decide) (kk Y h4)))) (fun c => ?_)
    obtain ⟨e1, e2⟩ := h3 c
    refine K.aload_n (q := 1611) dL_law_1610 rfl rfl ?_
    refine K.iconst (q := 1612) (v := 0) dL_law_1611 rfl (by decide) ?_
    refine K.lal (q := 1613) (m := 0) rx139 (lt141 (by decide)) rfl (by decide) (by decide) dL_law_1612 rfl ?_
    refine K.iload (q := 1615) dL_law_1613 rfl rfl ?_
    refine K.i2l (q := 1616) dL_law_1615 rfl ?_
    refine K.lcmp (q := 1617) dL_law_1616 rfl ?_
    exact K.if_eq (q := 1620) (tgt := 1622) dL_law_1617 rfl (by decide) (fun _ => K.drop 6 (K.drop 7 (K.goto (tgt := 1903) dL_law_1622 (by decide) (kk Y h4)))) (fun c2 => absurd (by rw [e1, e2]; exact lg_self _) c2)
theorem op_26 {Wk : tW} {kc ks len : Nat} {xs : Nat → Int32} (W : LawC Wk kc ks len xs) {X : GS} (R : Rel X) {m k n : Nat} (hm : m + 2 < len) (hk : k + 2 ≤ kc) (hn : n + 12 ≤ ks) (kk : ∀ Y, Rel Y → Wk (k + 2) (n + 12) 1903 (LOC (nI m)) [] (mkH Y)) : Wk k n 1625 (LOC (nI m)) [] (mkH X) := by
  have K := W.1

  refine K.aload_n (q := 1626) dL_law_1625 rfl rfl ?_
  refine K.aload_n (q := 1627) dL_law_1626 rfl rfl ?_
  refine K.iload (q := 1629) dL_law_1627 rfl rfl ?_
  refine K.iconst (q := 1630) (v := 1) dL_law_1629 rfl (by decide) ?_
  refine K.iaddE (q := 1631) (z := nI (m + 1)) (nI_1 m) dL_law_1630 rfl ?_
  refine W.sld (q := 1632) (m := m + 1) (by omega) dL_law_1631 rfl ?_
  refine K.aload_n (q := 1633) dL_law_1632 rfl rfl ?_
  obtain ⟨z, Z', vb, Y, he, h1, h2, h3, h4⟩ := p_account R (xs (m + 1))
  have hc := s_X7_account X (X.1 0) (xs (m + 1))
  rw [uB_eta] at hc
  refine K.callSH (q := 1636) mkL_account owL_account swL_account (by decide) mw_L_206 (L_account hc he) rfl (by decide) rfl (Nat.le_of_ble_eq_true rfl) hk hn dL_law_1633 rfl ?_
  refine K.istore (q := 1638) dL_law_1636 rfl (by decide) rfl ?_
  refine K.aload_n (q := 1639) dL_law_1638 rfl rfl ?_
  refine K.aload_n (q := 1640) dL_law_1639 rfl rfl ?_
  refine K.iload (q := 1642) dL_law_1640 rfl rfl ?_
  refine K.iconst (q := 1643) (v := 1) dL_law_1642 rfl (by decide) ?_
  refine K.iaddE (q := 1644) (z := nI (m + 1)) (nI_1 m) dL_law_1643 rfl ?_
  refine W.sld (q := 1645) (m := m + 1) (by omega) dL_law_1644 rfl ?_
  refine K.callV0 (q := 1648) mkX8_account mw_L_208 (s_X8_account Z' (xs (m + 1)) h1) rfl (by decide) rfl (lt141 (by decide)) rx131 (Nat.le_of_ble_eq_true rfl) hk hn dL_law_1645 rfl ?_
  refine K.istore (q := 1650) dL_law_1648 rfl (by decide) rfl ?_
  refine K.aload_n (q := 1651) dL_law_1650 rfl rfl ?_
  refine K.callV0 (q := 1654) mkX8_thrown mw_L_120 (s_X8_thrown Y (vo := Y.2.1 19) rfl) rfl (by decide) rfl (lt141 (by decide)) rx131 (Nat.le_of_ble_eq_true rfl) hk hn dL_law_1651 rfl ?_
  refine K.iload (q := 1656) dL_law_1654 rfl rfl ?_
  refine K.icmp_eq (q := 1659) (tgt := 1661) dL_law_1656 rfl (by decide) (fun _ => ?_) (fun c => absurd h2 c)
  refine K.iload (q := 1663) dL_law_1661 rfl rfl ?_
  refine K.if_ne (q := 1666) (tgt := 1678) dL_law_1663 rfl (by decide) (fun _ => K.drop 6 (K.drop 7 (K.goto (tgt := 1903) dL_law_1678 (by decide) (kk Y h4)))) (fun c => ?_)
  obtain ⟨e1, e2⟩ := h3 c
  refine K.aload_n (q := 1667) dL_law_1666 rfl rfl ?_
  refine K.iconst (q := 1668) (v := 0) dL_law_1667 rfl (by decide) ?_
  refine K.lal (q := 1669) (m := 0) rx139 (lt141 (by decide)) rfl (by decide) (by decide) dL_law_1668 rfl ?_
  refine K.iload (q := 1671) dL_law_1669 rfl rfl ?_
  refine K.i2l (q := 1672) dL_law_1671 rfl ?_
  refine K.lcmp (q := 1673) dL_law_1672 rfl ?_
  exact K.if_eq (q := 1676) (tgt := 1678) dL_law_1673 rfl (by decide) (fun _ => K.drop 6 (K.drop 7 (K.goto (tgt := 1903) dL_law_1678 (by decide) (kk Y h4)))) (fun c2 => absurd (by rw [e1, e2]; exact lg_self _) c2)
theorem op_28 {Wk : tW} {kc ks len : Nat} {xs : Nat → Int32} (W : LawC Wk kc ks len xs) {X : GS} (R : Rel X) {m k n : Nat} (hm : m + 2 < len) (hk : k + 2 ≤ kc) (hn : n + 12 ≤ ks) (kk : ∀ Y, Rel Y → Wk (k + 2) (n + 12) 1903 (LOC (nI m)) [] (mkH Y)) : Wk k n 1694 (LOC (nI m)) [] (mkH X) := by
  have K := W.1

  refine K.aload_n (q := 1695) dL_law_1694 rfl rfl ?_
  refine K.aload (q := 1697) dL_law_1695 rfl rfl ?_
  obtain ⟨hnan, z, Z', vb, Y, he, h1, h2, h3, h4⟩ := p_meanWaste R
  have hc := s_X7_meanWaste X (X.1 0) hnan
  rw [uB_eta] at hc
  refine K.callSH (q := 1700) mkL_meanWaste owL_meanWaste swL_meanWaste (by decide) mw_L_214 (L_meanWaste hc he) rfl (by decide) rfl (Nat.le_of_ble_eq_true rfl) hk hn dL_law_1697 rfl ?_
  refine K.istore (q := 1702) dL_law_1700 rfl (by decide) rfl ?_
  refine K.aload_n (q := 1703) dL_law_1702 rfl rfl ?_
  refine K.callV0 (q := 1706) mkX8_meanWaste mw_L_217 (s_X8_meanWaste Z' h1) rfl (by decide) rfl (lt141 (by decide)) rx131 (Nat.le_of_ble_eq_true rfl) hk hn dL_law_1703 rfl ?_
  refine K.dstore (q := 1708) dL_law_1706 rfl (by decide) rfl ?_
  refine K.aload_n (q := 1709) dL_law_1708 rfl rfl ?_
  refine K.callV0 (q := 1712) mkX8_thrown mw_L_120 (s_X8_thrown Y (vo := Y.2.1 19) rfl) rfl (by decide) rfl (lt141 (by decide)) rx131 (Nat.le_of_ble_eq_true rfl) hk hn dL_law_1709 rfl ?_
  refine K.iload (q := 1714) dL_law_1712 rfl rfl ?_
  refine K.icmp_eq (q := 1717) (tgt := 1719) dL_law_1714 rfl (by decide) (fun _ => ?_) (fun c => absurd h2 c)
  refine K.iload (q := 1721) dL_law_1719 rfl rfl ?_
  refine K.if_ne (q := 1724) (tgt := 1756) dL_law_1721 rfl (by decide) (fun _ => K.drop 6 (K.drop 7 (K.drop 8 (K.goto (tgt := 1903) dL_law_1756 (by decide) (kk Y h4))))) (fun c => ?_)
  obtain ⟨e1, e2⟩ := h3 c
  refine K.aload (q := 1726) dL_law_1724 rfl rfl ?_
  refine K.iconst (q := 1727) (v := 0) dL_law_1726 rfl (by decide) ?_
  refine K.dal (q := 1728) (m := 0) rx140 (lt141 (by decide)) rfl (by decide) (by decide) dL_law_1727 rfl ?_
  refine K.dload (q := 1730) dL_law_1728 rfl rfl ?_
  refine K.dcmp (q := 1731) dL_law_1730 rfl ?_
  rw [e1, e2]
  refine K.if_eq (q := 1734) (tgt := 1756) dL_law_1731 rfl (by decide) (fun _ => K.drop 6 (K.drop 7 (K.drop 8 (K.goto (tgt := 1903) dL_law_1756 (by decide) (kk Y h4))))) (fun c2 => ?_)
  refine K.aload (q := 1736) dL_law_1734 rfl rfl ?_
  refine K.iconst (q := 1737) (v := 0) dL_law_1736 rfl (by decide) ?_
  refine K.dal (q := 1738) (m := 0) rx140 (lt141 (by decide)) rfl (by decide) (by decide) dL_law_1737 rfl ?_
  refine K.aload (q := 1740) dL_law_1738 rfl rfl ?_
  refine K.iconst (q := 1741) (v := 0) dL_law_1740 rfl (by decide) ?_
  refine K.dal (q := 1742) (m := 0) rx140 (lt141 (by decide)) rfl (by decide) (by decide) dL_law_1741 rfl ?_
  refine K.dcmp (q := 1743) dL_law_1742 rfl ?_
  rw [e2]
  refine K.if_eq (q := 1746) (tgt := 1754) dL_law_1743 rfl (by decide) (fun c3 => absurd c3 c2) (fun _ => ?_)
  refine K.dload (q := 1748) dL_law_1746 rfl rfl ?_
  refine K.dload (q := 1750) dL_law_1748 rfl rfl ?_
  refine K.dcmp (q := 1751) dL_law_1750 rfl ?_
  exact K.if_ne (q := 1754) (tgt := 1756) dL_law_1751 rfl (by decide) (fun _ => K.drop 6 (K.drop 7 (K.drop 8 (K.goto (tgt := 1903) dL_law_1756 (by decide) (kk Y h4))))) (fun c3 => absurd c3 c2)
theorem op_30 {Wk : tW} {kc ks len : Nat} {xs : Nat → Int32} (W : LawC Wk kc ks len xs) {X : GS} (R : Rel X) {m k n : Nat} (hm : m + 2 < len) (hk : k + 2 ≤ kc) (hn : n + 12 ≤ ks) (kk : ∀ Y, Rel Y → Wk (k + 2) (n + 12) 1903 (LOC (nI m)) [] (mkH Y)) : Wk k n 1802 (LOC (nI m)) [] (mkH X) := by
  have K := W.1

  refine K.aload_n (q := 1803) dL_law_1802 rfl rfl ?_
  refine K.aload_n (q := 1804) dL_law_1803 rfl rfl ?_
  obtain ⟨z, Z', vb, Y, he, h1, h2, h3, h4⟩ := p_undo R
  have hc := s_X7_undo X (X.1 0) R.okI
  rw [uB_eta] at hc
  refine K.callSH (q := 1807) mkL_undo owL_undo swL_undo (by decide) mw_L_223 (L_undo hc he) rfl (by decide) rfl (Nat.le_of_ble_eq_true rfl) hk hn dL_law_1804 rfl ?_
  refine K.istore (q := 1809) dL_law_1807 rfl (by decide) rfl ?_
  refine K.aload_n (q := 1810) dL_law_1809 rfl rfl ?_
  refine K.callV0 (q := 1813) mkX8_undo mw_L_225 (s_X8_undo Z' h1) rfl (by decide) rfl (lt141 (by decide)) rx131 (Nat.le_of_ble_eq_true rfl) hk hn dL_law_1810 rfl ?_
  refine K.istore (q := 1815) dL_law_1813 rfl (by decide) rfl ?_
  refine K.aload_n (q := 1816) dL_law_1815 rfl rfl ?_
  refine K.callV0 (q := 1819) mkX8_thrown mw_L_120 (s_X8_thrown Y (vo := Y.2.1 19) rfl) rfl (by decide) rfl (lt141 (by decide)) rx131 (Nat.le_of_ble_eq_true rfl) hk hn dL_law_1816 rfl ?_
  refine K.iload (q := 1821) dL_law_1819 rfl rfl ?_
  refine K.icmp_eq (q := 1824) (tgt := 1826) dL_law_1821 rfl (by decide) (fun _ => ?_) (fun c => absurd h2 c)
  refine K.iload (q := 1828) dL_law_1826 rfl rfl ?_
  refine K.if_ne (q := 1831) (tgt := 1843) dL_law_1828 rfl (by decide) (fun _ => K.drop 6 (K.drop 7 (K.goto (tgt := 1903) dL_law_1843 (by decide) (kk Y h4)))) (fun c => ?_)
  obtain ⟨e1, e2⟩ := h3 c
  refine K.aload_n (q := 1832) dL_law_1831 rfl rfl ?_
  refine K.iconst (q := 1833) (v := 0) dL_law_1832 rfl (by decide) ?_
  refine K.lal (q := 1834) (m := 0) rx139 (lt141 (by decide)) rfl (by decide) (by decide) dL_law_1833 rfl ?_
  refine K.iload (q := 1836) dL_law_1834 rfl rfl ?_
  refine K.i2l (q := 1837) dL_law_1836 rfl ?_
  refine K.lcmp (q := 1838) dL_law_1837 rfl ?_
  exact K.if_eq (q := 1841) (tgt := 1843) dL_law_1838 rfl (by decide) (fun _ => K.drop 6 (K.drop 7 (K.goto (tgt := 1903) dL_law_1843 (by decide) (kk Y h4)))) (fun c2 => absurd (by rw [e1, e2]; exact lg_self _) c2)
theorem op_32 {Wk : tW} {kc ks len : Nat} {xs : Nat → Int32} (W : LawC Wk kc ks len xs) {X : GS} (R : Rel X) {m k n : Nat} (hm : m + 2 < len) (hk : k + 2 ≤ kc) (hn : n + 12 ≤ ks) (kk : ∀ Y, Rel Y → Wk (k + 2) (n + 12) 1903 (LOC (nI m)) [] (mkH Y)) : Wk k n 1859 (LOC (nI m)) [] (mkH X) := by
  have K := W.1

  refine K.aload_n (q := 1860) dL_law_1859 rfl rfl ?_
  refine K.aload_n (q := 1861) dL_law_1860 rfl rfl ?_
  obtain ⟨z, Z', vb, Y, he, h1, h2, h3, h4⟩ := p_restore R
  have hc := s_X7_restore X (X.1 0)
  rw [uB_eta] at hc
  refine K.callSH (q := 1864) mkL_restore owL_restore swL_restore (by decide) mw_L_230 (L_restore hc he) rfl (by decide) rfl (Nat.le_of_ble_eq_true rfl) hk hn dL_law_1861 rfl ?_
  refine K.istore (q := 1866) dL_law_1864 rfl (by decide) rfl ?_
  refine K.aload_n (q := 1867) dL_law_1866 rfl rfl ?_
  refine K.callV0 (q := 1870) mkX8_restore mw_L_232 (s_X8_restore Z' h1) rfl (by decide) rfl (lt141 (by decide)) rx131 (Nat.le_of_ble_eq_true rfl) hk hn dL_law_1867 rfl ?_
  refine K.istore (q := 1872) dL_law_1870 rfl (by decide) rfl ?_
  refine K.aload_n (q := 1873) dL_law_1872 rfl rfl ?_
  refine K.callV0 (q := 1876) mkX8_thrown mw_L_120 (s_X8_thrown Y (vo := Y.2.1 19) rfl) rfl (by decide) rfl (lt141 (by decide)) rx131 (Nat.le_of_ble_eq_true rfl) hk hn dL_law_1873 rfl ?_
  refine K.iload (q := 1878) dL_law_1876 rfl rfl ?_
  refine K.icmp_eq (q := 1881) (tgt := 1883) dL_law_1878 rfl (by decide) (fun _ => ?_) (fun c => absurd h2 c)
  refine K.iload (q := 1885) dL_law_1883 rfl rfl ?_
  refine K.if_ne (q := 1888) (tgt := 1900) dL_law_1885 rfl (by decide) (fun _ => K.drop 6 (K.drop 7 (K.goto (tgt := 1903) dL_law_1900 (by decide) (kk Y h4)))) (fun c => ?_)
  obtain ⟨e1, e2⟩ := h3 c
  refine K.aload_n (q := 1889) dL_law_1888 rfl rfl ?_
  refine K.iconst (q := 1890) (v := 0) dL_law_1889 rfl (by decide) ?_
  refine K.lal (q := 1891) (m := 0) rx139 (lt141 (by decide)) rfl (by decide) (by decide) dL_law_1890 rfl ?_
  refine K.iload (q := 1893) dL_law_1891 rfl rfl ?_
  refine K.i2l (q := 1894) dL_law_1893 rfl ?_
  refine K.lcmp (q := 1895) dL_law_1894 rfl ?_
  exact K.if_eq (q := 1898) (tgt := 1900) dL_law_1895 rfl (by decide) (fun _ => K.drop 6 (K.drop 7 (K.goto (tgt := 1903) dL_law_1900 (by decide) (kk Y h4)))) (fun c2 => absurd (by rw [e1, e2]; exact lg_self _) c2)
theorem op_19 {Wk : tW} {kc ks len : Nat} {xs : Nat → Int32} (W : LawC Wk kc ks len xs) {X : GS} (R : Rel X) {m k n : Nat} (hk : k ≤ kc) (hn : n ≤ ks) (kk : ∀ Y, Rel Y → Wk k n 1903 (LOC (nI m)) [] (mkH Y)) : Wk k n 1356 (LOC (nI m)) [] (mkH X) := by
  have K := W.1
  obtain ⟨Z, Y, v, h0, h1, h2, h3⟩ := p_line R
  have hc := s_X7_line X (X.1 0)
  rw [h0, h1, uB_eta] at hc
  refine K.aload_n (q := 1357) dL_law_1356 rfl rfl ?_
  refine K.callV0 (q := 1360) mkX7_line mw_L_180 (hc) rfl (by decide) rfl (lt141 (by decide)) rx0 (Nat.le_of_ble_eq_true rfl) hk hn dL_law_1357 rfl ?_
  refine K.aload_n (q := 1361) dL_law_1360 rfl rfl ?_
  refine K.callV0 (q := 1364) mkX8_line mw_L_183 (s_X8_line Z h2) rfl (by decide) rfl (lt141 (by decide)) rx131 (Nat.le_of_ble_eq_true rfl) hk hn dL_law_1361 rfl ?_
  exact K.icmp_eq (q := 1367) (tgt := 1903) dL_law_1364 rfl (by decide) (fun _ => kk Y h3) (fun c => absurd rfl c)
theorem op_20 {Wk : tW} {kc ks len : Nat} {xs : Nat → Int32} (W : LawC Wk kc ks len xs) {X : GS} (R : Rel X) {m k n : Nat} (hk : k ≤ kc) (hn : n ≤ ks) (kk : ∀ Y, Rel Y → Wk k n 1903 (LOC (nI m)) [] (mkH Y)) : Wk k n 1369 (LOC (nI m)) [] (mkH X) := by
  have K := W.1
  obtain ⟨Z, Y, v, h0, h1, h2, h3⟩ := p_map R
  have hc := s_X7_map X (X.1 0)
  rw [h0, h1, uB_eta] at hc
  refine K.aload_n (q := 1370) dL_law_1369 rfl rfl ?_
  refine K.callV0 (q := 1373) mkX7_map mw_L_184 (hc) rfl (by decide) rfl (lt141 (by decide)) rx0 (Nat.le_of_ble_eq_true rfl) hk hn dL_law_1370 rfl ?_
  refine K.aload_n (q := 1374) dL_law_1373 rfl rfl ?_
  refine K.callV0 (q := 1377) mkX8_map mw_L_187 (s_X8_map Z h2) rfl (by decide) rfl (lt141 (by decide)) rx131 (Nat.le_of_ble_eq_true rfl) hk hn dL_law_1374 rfl ?_
  exact K.icmp_eq (q := 1380) (tgt := 1903) dL_law_1377 rfl (by decide) (fun _ => kk Y h3) (fun c => absurd rfl c)
theorem op_24 {Wk : tW} {kc ks len : Nat} {xs : Nat → Int32} (W : LawC Wk kc ks len xs) {X : GS} (R : Rel X) {m k n : Nat} (hk : k ≤ kc) (hn : n ≤ ks) (kk : ∀ Y, Rel Y → Wk k n 1903 (LOC (nI m)) [] (mkH Y)) : Wk k n 1540 (LOC (nI m)) [] (mkH X) := by
  have K := W.1
  have hc := s_X7_errorPosition X (X.1 0)
  rw [uB_eta] at hc
  refine K.aload_n (q := 1541) dL_law_1540 rfl rfl ?_
  refine K.callV0 (q := 1544) mkX7_errorPosition mw_L_198 (hc) rfl (by decide) rfl (lt141 (by decide)) rx0 (Nat.le_of_ble_eq_true rfl) hk hn dL_law_1541 rfl ?_
  refine K.aload_n (q := 1545) dL_law_1544 rfl rfl ?_
  refine K.callV0 (q := 1548) mkX8_errorPosition mw_L_201 (s_X8_errorPosition X (q_errorPosition R)) rfl (by decide) rfl (lt141 (by decide)) rx131 (Nat.le_of_ble_eq_true rfl) hk hn dL_law_1545 rfl ?_
  exact K.icmp_eq (q := 1551) (tgt := 1903) dL_law_1548 rfl (by decide) (fun _ => kk _ (Rel.q R 0 0).1) (fun c => absurd rfl c)
theorem op_27 {Wk : tW} {kc ks len : Nat} {xs : Nat → Int32} (W : LawC Wk kc ks len xs) {X : GS} (R : Rel X) {m k n : Nat} (hk : k ≤ kc) (hn : n ≤ ks) (kk : ∀ Y, Rel Y → Wk k n 1903 (LOC (nI m)) [] (mkH Y)) : Wk k n 1681 (LOC (nI m)) [] (mkH X) := by
  have K := W.1
  have hc := s_X7_isWell X (X.1 0)
  rw [uB_eta, p_well R] at hc
  refine K.aload_n (q := 1682) dL_law_1681 rfl rfl ?_
  refine K.callV0 (q := 1685) mkX7_isWell mw_L_209 (hc) rfl (by decide) rfl (lt141 (by decide)) rx0 (Nat.le_of_ble_eq_true rfl) hk hn dL_law_1682 rfl ?_
  refine K.aload_n (q := 1686) dL_law_1685 rfl rfl ?_
  refine K.callV0 (q := 1689) mkX8_isWell mw_L_213 (s_X8_isWell X rfl) rfl (by decide) rfl (lt141 (by decide)) rx131 (Nat.le_of_ble_eq_true rfl) hk hn dL_law_1686 rfl ?_
  exact K.icmp_eq (q := 1692) (tgt := 1903) dL_law_1689 rfl (by decide) (fun _ => kk _ (Rel.q R 0 0).1) (fun c => absurd rfl c)
theorem op_31 {Wk : tW} {kc ks len : Nat} {xs : Nat → Int32} (W : LawC Wk kc ks len xs) {X : GS} (R : Rel X) {m k n : Nat} (hk : k ≤ kc) (hn : n ≤ ks) (kk : ∀ Y, Rel Y → Wk k n 1903 (LOC (nI m)) [] (mkH Y)) : Wk k n 1846 (LOC (nI m)) [] (mkH X) := by
  have K := W.1
  obtain ⟨Y, h1, h2, h3⟩ := save_ok R
  have hc := s_X7_save X (X.1 0)
  rw [uB_eta] at hc
  refine K.aload_n (q := 1847) dL_law_1846 rfl rfl ?_
  refine K.callV0 (q := 1850) mkX7_save mw_L_226 (hc) rfl (by decide) rfl (lt141 (by decide)) rx0 (Nat.le_of_ble_eq_true rfl) hk hn dL_law_1847 rfl ?_
  refine K.aload_n (q := 1851) dL_law_1850 rfl rfl ?_
  refine K.callV0 (q := 1854) mkX8_save mw_L_229 (s_X8_save _ h1) rfl (by decide) rfl (lt141 (by decide)) rx131 (Nat.le_of_ble_eq_true rfl) hk hn dL_law_1851 rfl ?_
  exact K.icmp_eq (q := 1857) (tgt := 1903) dL_law_1854 rfl (by decide) (fun _ => kk Y h3) (fun c => absurd rfl c)
theorem op_29 {Wk : tW} {kc ks len : Nat} {xs : Nat → Int32} (W : LawC Wk kc ks len xs) {X : GS} (R : Rel X) {m k n : Nat} (hk : k ≤ kc) (hn : n ≤ ks) (kk : ∀ Y, Rel Y → Wk k n 1903 (LOC (nI m)) [] (mkH Y)) : Wk k n 1759 (LOC (nI m)) [] (mkH X) := by
  have K := W.1
  obtain ⟨h1, h2, h3, h4⟩ := p_lentShare R
  have hc := s_X7_lentShare X (X.1 0) h1
  rw [uB_eta] at hc
  refine K.aload_n (q := 1760) dL_law_1759 rfl rfl ?_
  refine K.callV0 (q := 1763) mkX7_lentShare mw_L_218 hc rfl (by decide) rfl (lt141 (by decide)) rx0 (Nat.le_of_ble_eq_true rfl) hk hn dL_law_1760 rfl ?_
  refine K.f2d (q := 1764) dL_law_1763 rfl h2 ?_
  refine K.dstore (q := 1766) dL_law_1764 rfl (by decide) rfl ?_
  refine K.aload_n (q := 1767) dL_law_1766 rfl rfl ?_
  refine K.callV0 (q := 1770) mkX8_lentShare mw_L_222 (s_X8_lentShare X h3) rfl (by decide) rfl (lt141 (by decide)) rx131 (Nat.le_of_ble_eq_true rfl) hk hn dL_law_1767 rfl ?_
  refine K.f2d (q := 1771) dL_law_1770 rfl h2 ?_
  refine K.dstore (q := 1773) dL_law_1771 rfl (by decide) rfl ?_
  have fin : Wk k n 1799 [some (.ref 1000), some (.ref 0), some (.ref 131), some (.ref 139), some (.ref 140), some (.int (nI m)), some (.double (FP.f2d (r_X7_lentShare (X.1 0)))), none, some (.double (FP.f2d (r_X7_lentShare (X.1 0)))), none] [] (mkH (uS X 19 0)) :=
    K.drop 6 (K.drop 8 (K.goto (tgt := 1903) dL_law_1799 (by decide) (kk _ h4)))
  refine K.dload (q := 1775) dL_law_1773 rfl rfl ?_
  refine K.dload (q := 1777) dL_law_1775 rfl rfl ?_
  refine K.dcmp (q := 1778) dL_law_1777 rfl ?_
  refine K.if_eq (q := 1781) (tgt := 1799) dL_law_1778 rfl (by decide) (fun _ => fin) (fun c2 => ?_)
  refine K.dload (q := 1783) dL_law_1781 rfl rfl ?_
  refine K.dload (q := 1785) dL_law_1783 rfl rfl ?_
  refine K.dcmp (q := 1786) dL_law_1785 rfl ?_
  refine K.if_eq (q := 1789) (tgt := 1797) dL_law_1786 rfl (by decide) (fun c3 => absurd c3 c2) (fun _ => ?_)
  refine K.dload (q := 1791) dL_law_1789 rfl rfl ?_
  refine K.dload (q := 1793) dL_law_1791 rfl rfl ?_
  refine K.dcmp (q := 1794) dL_law_1793 rfl ?_
  exact K.if_ne (q := 1797) (tgt := 1799) dL_law_1794 rfl (by decide) (fun _ => fin) (fun c3 => absurd c3 c2)
