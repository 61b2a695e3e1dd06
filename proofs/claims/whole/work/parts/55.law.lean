/-! the law: the cases of its switch -/
def nx (M : am_M) (ck i : Nat) (Q : am_T) : Prop := ∀ (M2 : am_M) (pn : Nat → Nat) (nb nw ck' len : Nat) (q : Nat → Nat), RL M2 pn nb nw ck' len q → M2.2.2.2 = M.2.2.2 → M.2.2.1 ≤ M2.2.2.1 + 1 → ck' ≤ ck + 48 → ∀ x5 x6 : Value, am_W kL_law 1131 [.ref am_SC, .ref 0, .ref 27, .ref 38, .int (nI i), x5, x6] [] M2 Q
theorem lg_0 (x : Int64) : lg_cmp x x = 0 := by
  unfold lg_cmp
  simp
theorem t_branch {M2 : am_M} {Q : am_T} {i : Nat} {k v : Int32} {x6 : Value} (hk : M2.1 27 0 = k) (hv : k = 0 → M2.2.1 38 0 = v.toInt64) (next : ∀ x5 x6 : Value, am_W kL_law 1131 [.ref am_SC, .ref 0, .ref 27, .ref 38, .int (nI i), x5, x6] [] M2 Q) : am_W kL_law 151 [.ref am_SC, .ref 0, .ref 27, .ref 38, .int (nI i), .int k, x6] [.int v] M2 Q := by
  refine am_istore d128_151 (Nat.le_of_ble_eq_true rfl) rfl ?_
  refine am_aload_n d128_153 rfl ?_
  refine am_cv0 33 d128_154 ml128_75 rfl (by decide) sh_27 rfl  (Nat.le_of_ble_eq_true rfl) ?_
  refine m_thrown ?_
  show am_W 128 157 _ (.int _ :: _) _ _
  rw [hk]
  refine am_iload d128_157 rfl ?_
  refine am_iceq 164 d128_159 (by decide) (fun _ => ?_) (fun h => absurd rfl h)
  refine am_iload d128_164 rfl ?_
  refine am_ifne 181 d128_166 (by decide) (fun _ => ?_) (fun h0 => ?_)
  · refine am_goto 1131 d128_181 (by decide) ?_
    exact next _ _
  · refine am_aload_n d128_169 rfl ?_
    refine am_iconst (nI 0) d128_170 (by decide) ?_
    refine am_lald d128_171 sh_38 (nI_in (by decide) (by decide)) ?_
    show am_W 128 172 _ (.long (M2.2.1 38 0) :: _) _ _
    rw [hv h0]
    refine am_iload d128_172 rfl ?_
    refine am_i2l d128_174 ?_
    refine am_lcmp d128_175 ?_
    rw [lg_0]
    refine am_ifeq 181 d128_176 (by decide) (fun _ => ?_) (fun h => absurd rfl h)
    refine am_goto 1131 d128_181 (by decide) ?_
    exact next _ _
theorem u_branch {M M1 : am_M} {Q : am_T} {i : Nat} {k : Int32} {x5 x6 : Value} (e2 : M1.2.2.2 = M.2.2.2) (hi : i + 6 ≤ M.2.2.2.1) (hl : M.2.2.2.1 < 2 ^ 31) (h : am_W kM_branch 0 (am_in kM_branch [.ref 27, .int (M.2.2.2.2 (i + 1)), .int (M.2.2.2.2 (i + 2))]) [] M1 (am_af am_W kL_law 148 [.ref am_SC, .ref 0, .ref 27, .ref 38, .int (nI i), .int k, x6] [] Q)) : am_W kL_law 133 [.ref am_SC, .ref 0, .ref 27, .ref 38, .int (nI i), x5, x6] [.int k] M1 Q := by
  refine am_istore d128_133 (Nat.le_of_ble_eq_true rfl) rfl ?_
  refine am_aload_n d128_135 rfl ?_
  refine am_aload_n d128_136 rfl ?_
  refine am_iload d128_137 rfl ?_
  refine am_iconst (nI 1) d128_139 (by decide) ?_
  refine am_addN d128_140 ?_
  refine am_saldN (i + 1) d128_141 (by rw [e2]; omega) (by rw [e2]; exact hl) ?_
  rw [e2]
  refine am_aload_n d128_142 rfl ?_
  refine am_iload d128_143 rfl ?_
  refine am_iconst (nI 2) d128_145 (by decide) ?_
  refine am_addN d128_146 ?_
  refine am_saldN (i + 2) d128_147 (by rw [e2]; omega) (by rw [e2]; exact hl) ?_
  rw [e2]
  refine am_cv2 44 d128_148 ml128_74 rfl (by decide) sh_27 rfl rfl rfl (Nat.le_of_ble_eq_true rfl) ?_
  exact h
theorem t_close {M2 : am_M} {Q : am_T} {i : Nat} {k : Int32} {x6 : Value} (hk : M2.1 27 0 = k) (next : ∀ x5 x6 : Value, am_W kL_law 1131 [.ref am_SC, .ref 0, .ref 27, .ref 38, .int (nI i), x5, x6] [] M2 Q) : am_W kL_law 206 [.ref am_SC, .ref 0, .ref 27, .ref 38, .int (nI i), .int k, x6] [] M2 Q := by
  refine am_aload_n d128_206 rfl ?_
  refine am_cv0 33 d128_207 ml128_75 rfl (by decide) sh_27 rfl  (Nat.le_of_ble_eq_true rfl) ?_
  refine m_thrown ?_
  show am_W 128 210 _ (.int _ :: _) _ _
  rw [hk]
  refine am_iload d128_210 rfl ?_
  refine am_iceq 217 d128_212 (by decide) (fun _ => ?_) (fun h => absurd rfl h)
  refine am_goto 1131 d128_217 (by decide) ?_
  exact next _ _
theorem u_close {M M1 : am_M} {Q : am_T} {i : Nat} {k : Int32} {x5 x6 : Value} (e2 : M1.2.2.2 = M.2.2.2) (hi : i + 6 ≤ M.2.2.2.1) (hl : M.2.2.2.1 < 2 ^ 31) (h : am_W kM_close 0 (am_in kM_close [.ref 27, .int (M.2.2.2.2 (i + 1))]) [] M1 (am_af am_W kL_law 203 [.ref am_SC, .ref 0, .ref 27, .ref 38, .int (nI i), .int k, x6] [] Q)) : am_W kL_law 194 [.ref am_SC, .ref 0, .ref 27, .ref 38, .int (nI i), x5, x6] [.int k] M1 Q := by
  refine am_istore d128_194 (Nat.le_of_ble_eq_true rfl) rfl ?_
  refine am_aload_n d128_196 rfl ?_
  refine am_aload_n d128_197 rfl ?_
  refine am_iload d128_198 rfl ?_
  refine am_iconst (nI 1) d128_200 (by decide) ?_
  refine am_addN d128_201 ?_
  refine am_saldN (i + 1) d128_202 (by rw [e2]; omega) (by rw [e2]; exact hl) ?_
  rw [e2]
  refine am_cv1 46 d128_203 ml128_82 rfl (by decide) sh_27 rfl rfl (Nat.le_of_ble_eq_true rfl) ?_
  exact h
theorem t_write {M2 : am_M} {Q : am_T} {i : Nat} {k v : Int32} {x6 : Value} (hk : M2.1 27 0 = k) (hv : k = 0 → M2.2.1 38 0 = v.toInt64) (next : ∀ x5 x6 : Value, am_W kL_law 1131 [.ref am_SC, .ref 0, .ref 27, .ref 38, .int (nI i), x5, x6] [] M2 Q) : am_W kL_law 291 [.ref am_SC, .ref 0, .ref 27, .ref 38, .int (nI i), .int k, x6] [.int v] M2 Q := by
  refine am_istore d128_291 (Nat.le_of_ble_eq_true rfl) rfl ?_
  refine am_aload_n d128_293 rfl ?_
  refine am_cv0 33 d128_294 ml128_75 rfl (by decide) sh_27 rfl  (Nat.le_of_ble_eq_true rfl) ?_
  refine m_thrown ?_
  show am_W 128 297 _ (.int _ :: _) _ _
  rw [hk]
  refine am_iload d128_297 rfl ?_
  refine am_iceq 304 d128_299 (by decide) (fun _ => ?_) (fun h => absurd rfl h)
  refine am_iload d128_304 rfl ?_
  refine am_ifne 321 d128_306 (by decide) (fun _ => ?_) (fun h0 => ?_)
  · refine am_goto 1131 d128_321 (by decide) ?_
    exact next _ _
  · refine am_aload_n d128_309 rfl ?_
    refine am_iconst (nI 0) d128_310 (by decide) ?_
    refine am_lald d128_311 sh_38 (nI_in (by decide) (by decide)) ?_
    show am_W 128 312 _ (.long (M2.2.1 38 0) :: _) _ _
    rw [hv h0]
    refine am_iload d128_312 rfl ?_
    refine am_i2l d128_314 ?_
    refine am_lcmp d128_315 ?_
    rw [lg_0]
    refine am_ifeq 321 d128_316 (by decide) (fun _ => ?_) (fun h => absurd rfl h)
    refine am_goto 1131 d128_321 (by decide) ?_
    exact next _ _
theorem u_write {M M1 : am_M} {Q : am_T} {i : Nat} {k : Int32} {x5 x6 : Value} (e2 : M1.2.2.2 = M.2.2.2) (hi : i + 6 ≤ M.2.2.2.1) (hl : M.2.2.2.1 < 2 ^ 31) (h : am_W kM_write 0 (am_in kM_write [.ref 27, .int (M.2.2.2.2 (i + 1)), .int (M.2.2.2.2 (i + 2)), .int (M.2.2.2.2 (i + 3)), .int (M.2.2.2.2 (i + 4)), .int (M.2.2.2.2 (i + 5))]) [] M1 (am_af am_W kL_law 288 [.ref am_SC, .ref 0, .ref 27, .ref 38, .int (nI i), .int k, x6] [] Q)) : am_W kL_law 255 [.ref am_SC, .ref 0, .ref 27, .ref 38, .int (nI i), x5, x6] [.int k] M1 Q := by
  refine am_istore d128_255 (Nat.le_of_ble_eq_true rfl) rfl ?_
  refine am_aload_n d128_257 rfl ?_
  refine am_aload_n d128_258 rfl ?_
  refine am_iload d128_259 rfl ?_
  refine am_iconst (nI 1) d128_261 (by decide) ?_
  refine am_addN d128_262 ?_
  refine am_saldN (i + 1) d128_263 (by rw [e2]; omega) (by rw [e2]; exact hl) ?_
  rw [e2]
  refine am_aload_n d128_264 rfl ?_
  refine am_iload d128_265 rfl ?_
  refine am_iconst (nI 2) d128_267 (by decide) ?_
  refine am_addN d128_268 ?_
  refine am_saldN (i + 2) d128_269 (by rw [e2]; omega) (by rw [e2]; exact hl) ?_
  rw [e2]
  refine am_aload_n d128_270 rfl ?_
  refine am_iload d128_271 rfl ?_
  refine am_iconst (nI 3) d128_273 (by decide) ?_
  refine am_addN d128_274 ?_
  refine am_saldN (i + 3) d128_275 (by rw [e2]; omega) (by rw [e2]; exact hl) ?_
  rw [e2]
  refine am_aload_n d128_276 rfl ?_
  refine am_iload d128_277 rfl ?_
  refine am_iconst (nI 4) d128_279 (by decide) ?_
  refine am_addN d128_280 ?_
  refine am_saldN (i + 4) d128_281 (by rw [e2]; omega) (by rw [e2]; exact hl) ?_
  rw [e2]
  refine am_aload_n d128_282 rfl ?_
  refine am_iload d128_283 rfl ?_
  refine am_iconst (nI 5) d128_285 (by decide) ?_
  refine am_addN d128_286 ?_
  refine am_saldN (i + 5) d128_287 (by rw [e2]; omega) (by rw [e2]; exact hl) ?_
  rw [e2]
  refine am_cv5 48 d128_288 ml128_86 rfl (by decide) sh_27 rfl rfl rfl rfl rfl rfl (Nat.le_of_ble_eq_true rfl) ?_
  exact h
theorem t_read {M2 : am_M} {Q : am_T} {i : Nat} {k v : Int32} {x6 : Value} (hk : M2.1 27 0 = k) (hv : k = 0 → M2.2.1 38 0 = v.toInt64) (next : ∀ x5 x6 : Value, am_W kL_law 1131 [.ref am_SC, .ref 0, .ref 27, .ref 38, .int (nI i), x5, x6] [] M2 Q) : am_W kL_law 395 [.ref am_SC, .ref 0, .ref 27, .ref 38, .int (nI i), .int k, x6] [.int v] M2 Q := by
  refine am_istore d128_395 (Nat.le_of_ble_eq_true rfl) rfl ?_
  refine am_aload_n d128_397 rfl ?_
  refine am_cv0 33 d128_398 ml128_75 rfl (by decide) sh_27 rfl  (Nat.le_of_ble_eq_true rfl) ?_
  refine m_thrown ?_
  show am_W 128 401 _ (.int _ :: _) _ _
  rw [hk]
  refine am_iload d128_401 rfl ?_
  refine am_iceq 408 d128_403 (by decide) (fun _ => ?_) (fun h => absurd rfl h)
  refine am_iload d128_408 rfl ?_
  refine am_ifne 425 d128_410 (by decide) (fun _ => ?_) (fun h0 => ?_)
  · refine am_goto 1131 d128_425 (by decide) ?_
    exact next _ _
  · refine am_aload_n d128_413 rfl ?_
    refine am_iconst (nI 0) d128_414 (by decide) ?_
    refine am_lald d128_415 sh_38 (nI_in (by decide) (by decide)) ?_
    show am_W 128 416 _ (.long (M2.2.1 38 0) :: _) _ _
    rw [hv h0]
    refine am_iload d128_416 rfl ?_
    refine am_i2l d128_418 ?_
    refine am_lcmp d128_419 ?_
    rw [lg_0]
    refine am_ifeq 425 d128_420 (by decide) (fun _ => ?_) (fun h => absurd rfl h)
    refine am_goto 1131 d128_425 (by decide) ?_
    exact next _ _
theorem u_read {M M1 : am_M} {Q : am_T} {i : Nat} {k : Int32} {x5 x6 : Value} (e2 : M1.2.2.2 = M.2.2.2) (hi : i + 6 ≤ M.2.2.2.1) (hl : M.2.2.2.1 < 2 ^ 31) (h : am_W kM_read 0 (am_in kM_read [.ref 27, .int (M.2.2.2.2 (i + 1)), .int (M.2.2.2.2 (i + 2)), .int (M.2.2.2.2 (i + 3)), .int (M.2.2.2.2 (i + 4)), .int (M.2.2.2.2 (i + 5))]) [] M1 (am_af am_W kL_law 392 [.ref am_SC, .ref 0, .ref 27, .ref 38, .int (nI i), .int k, x6] [] Q)) : am_W kL_law 359 [.ref am_SC, .ref 0, .ref 27, .ref 38, .int (nI i), x5, x6] [.int k] M1 Q := by
  refine am_istore d128_359 (Nat.le_of_ble_eq_true rfl) rfl ?_
  refine am_aload_n d128_361 rfl ?_
  refine am_aload_n d128_362 rfl ?_
  refine am_iload d128_363 rfl ?_
  refine am_iconst (nI 1) d128_365 (by decide) ?_
  refine am_addN d128_366 ?_
  refine am_saldN (i + 1) d128_367 (by rw [e2]; omega) (by rw [e2]; exact hl) ?_
  rw [e2]
  refine am_aload_n d128_368 rfl ?_
  refine am_iload d128_369 rfl ?_
  refine am_iconst (nI 2) d128_371 (by decide) ?_
  refine am_addN d128_372 ?_
  refine am_saldN (i + 2) d128_373 (by rw [e2]; omega) (by rw [e2]; exact hl) ?_
  rw [e2]
  refine am_aload_n d128_374 rfl ?_
  refine am_iload d128_375 rfl ?_
  refine am_iconst (nI 3) d128_377 (by decide) ?_
  refine am_addN d128_378 ?_
  refine am_saldN (i + 3) d128_379 (by rw [e2]; omega) (by rw [e2]; exact hl) ?_
  rw [e2]
  refine am_aload_n d128_380 rfl ?_
  refine am_iload d128_381 rfl ?_
  refine am_iconst (nI 4) d128_383 (by decide) ?_
  refine am_addN d128_384 ?_
  refine am_saldN (i + 4) d128_385 (by rw [e2]; omega) (by rw [e2]; exact hl) ?_
  rw [e2]
  refine am_aload_n d128_386 rfl ?_
  refine am_iload d128_387 rfl ?_
  refine am_iconst (nI 5) d128_389 (by decide) ?_
  refine am_addN d128_390 ?_
  refine am_saldN (i + 5) d128_391 (by rw [e2]; omega) (by rw [e2]; exact hl) ?_
  rw [e2]
  refine am_cv5 49 d128_392 ml128_89 rfl (by decide) sh_27 rfl rfl rfl rfl rfl rfl (Nat.le_of_ble_eq_true rfl) ?_
  exact h
theorem t_history {M2 : am_M} {Q : am_T} {i : Nat} {k v : Int32} {x6 : Value} (hk : M2.1 27 0 = k) (hv : k = 0 → M2.2.1 38 0 = v.toInt64) (next : ∀ x5 x6 : Value, am_W kL_law 1131 [.ref am_SC, .ref 0, .ref 27, .ref 38, .int (nI i), x5, x6] [] M2 Q) : am_W kL_law 487 [.ref am_SC, .ref 0, .ref 27, .ref 38, .int (nI i), .int k, x6] [.int v] M2 Q := by
  refine am_istore d128_487 (Nat.le_of_ble_eq_true rfl) rfl ?_
  refine am_aload_n d128_489 rfl ?_
  refine am_cv0 33 d128_490 ml128_75 rfl (by decide) sh_27 rfl  (Nat.le_of_ble_eq_true rfl) ?_
  refine m_thrown ?_
  show am_W 128 493 _ (.int _ :: _) _ _
  rw [hk]
  refine am_iload d128_493 rfl ?_
  refine am_iceq 500 d128_495 (by decide) (fun _ => ?_) (fun h => absurd rfl h)
  refine am_iload d128_500 rfl ?_
  refine am_ifne 517 d128_502 (by decide) (fun _ => ?_) (fun h0 => ?_)
  · refine am_goto 1131 d128_517 (by decide) ?_
    exact next _ _
  · refine am_aload_n d128_505 rfl ?_
    refine am_iconst (nI 0) d128_506 (by decide) ?_
    refine am_lald d128_507 sh_38 (nI_in (by decide) (by decide)) ?_
    show am_W 128 508 _ (.long (M2.2.1 38 0) :: _) _ _
    rw [hv h0]
    refine am_iload d128_508 rfl ?_
    refine am_i2l d128_510 ?_
    refine am_lcmp d128_511 ?_
    rw [lg_0]
    refine am_ifeq 517 d128_512 (by decide) (fun _ => ?_) (fun h => absurd rfl h)
    refine am_goto 1131 d128_517 (by decide) ?_
    exact next _ _
theorem u_history {M M1 : am_M} {Q : am_T} {i : Nat} {k : Int32} {x5 x6 : Value} (e2 : M1.2.2.2 = M.2.2.2) (hi : i + 6 ≤ M.2.2.2.1) (hl : M.2.2.2.1 < 2 ^ 31) (h : am_W kM_history 0 (am_in kM_history [.ref 27, .int (M.2.2.2.2 (i + 1)), .int (M.2.2.2.2 (i + 2)), .int (M.2.2.2.2 (i + 3)), .int (M.2.2.2.2 (i + 4))]) [] M1 (am_af am_W kL_law 484 [.ref am_SC, .ref 0, .ref 27, .ref 38, .int (nI i), .int k, x6] [] Q)) : am_W kL_law 457 [.ref am_SC, .ref 0, .ref 27, .ref 38, .int (nI i), x5, x6] [.int k] M1 Q := by
  refine am_istore d128_457 (Nat.le_of_ble_eq_true rfl) rfl ?_
  refine am_aload_n d128_459 rfl ?_
  refine am_aload_n d128_460 rfl ?_
  refine am_iload d128_461 rfl ?_
  refine am_iconst (nI 1) d128_463 (by decide) ?_
  refine am_addN d128_464 ?_
  refine am_saldN (i + 1) d128_465 (by rw [e2]; omega) (by rw [e2]; exact hl) ?_
  rw [e2]
  refine am_aload_n d128_466 rfl ?_
  refine am_iload d128_467 rfl ?_
  refine am_iconst (nI 2) d128_469 (by decide) ?_
  refine am_addN d128_470 ?_
  refine am_saldN (i + 2) d128_471 (by rw [e2]; omega) (by rw [e2]; exact hl) ?_
  rw [e2]
  refine am_aload_n d128_472 rfl ?_
  refine am_iload d128_473 rfl ?_
  refine am_iconst (nI 3) d128_475 (by decide) ?_
  refine am_addN d128_476 ?_
  refine am_saldN (i + 3) d128_477 (by rw [e2]; omega) (by rw [e2]; exact hl) ?_
  rw [e2]
  refine am_aload_n d128_478 rfl ?_
  refine am_iload d128_479 rfl ?_
  refine am_iconst (nI 4) d128_481 (by decide) ?_
  refine am_addN d128_482 ?_
  refine am_saldN (i + 4) d128_483 (by rw [e2]; omega) (by rw [e2]; exact hl) ?_
  rw [e2]
  refine am_cv4 50 d128_484 ml128_93 rfl (by decide) sh_27 rfl rfl rfl rfl rfl (Nat.le_of_ble_eq_true rfl) ?_
  exact h
theorem t_differs {M2 : am_M} {Q : am_T} {i : Nat} {k v : Int32} {x6 : Value} (hk : M2.1 27 0 = k) (hv : k = 0 → M2.2.1 38 0 = v.toInt64) (next : ∀ x5 x6 : Value, am_W kL_law 1131 [.ref am_SC, .ref 0, .ref 27, .ref 38, .int (nI i), x5, x6] [] M2 Q) : am_W kL_law 567 [.ref am_SC, .ref 0, .ref 27, .ref 38, .int (nI i), .int k, x6] [.int v] M2 Q := by
  refine am_istore d128_567 (Nat.le_of_ble_eq_true rfl) rfl ?_
  refine am_aload_n d128_569 rfl ?_
  refine am_cv0 33 d128_570 ml128_75 rfl (by decide) sh_27 rfl  (Nat.le_of_ble_eq_true rfl) ?_
  refine m_thrown ?_
  show am_W 128 573 _ (.int _ :: _) _ _
  rw [hk]
  refine am_iload d128_573 rfl ?_
  refine am_iceq 580 d128_575 (by decide) (fun _ => ?_) (fun h => absurd rfl h)
  refine am_iload d128_580 rfl ?_
  refine am_ifne 597 d128_582 (by decide) (fun _ => ?_) (fun h0 => ?_)
  · refine am_goto 1131 d128_597 (by decide) ?_
    exact next _ _
  · refine am_aload_n d128_585 rfl ?_
    refine am_iconst (nI 0) d128_586 (by decide) ?_
    refine am_lald d128_587 sh_38 (nI_in (by decide) (by decide)) ?_
    show am_W 128 588 _ (.long (M2.2.1 38 0) :: _) _ _
    rw [hv h0]
    refine am_iload d128_588 rfl ?_
    refine am_i2l d128_590 ?_
    refine am_lcmp d128_591 ?_
    rw [lg_0]
    refine am_ifeq 597 d128_592 (by decide) (fun _ => ?_) (fun h => absurd rfl h)
    refine am_goto 1131 d128_597 (by decide) ?_
    exact next _ _
theorem u_differs {M M1 : am_M} {Q : am_T} {i : Nat} {k : Int32} {x5 x6 : Value} (e2 : M1.2.2.2 = M.2.2.2) (hi : i + 6 ≤ M.2.2.2.1) (hl : M.2.2.2.1 < 2 ^ 31) (h : am_W kM_differs 0 (am_in kM_differs [.ref 27, .int (M.2.2.2.2 (i + 1)), .int (M.2.2.2.2 (i + 2)), .int (M.2.2.2.2 (i + 3))]) [] M1 (am_af am_W kL_law 564 [.ref am_SC, .ref 0, .ref 27, .ref 38, .int (nI i), .int k, x6] [] Q)) : am_W kL_law 543 [.ref am_SC, .ref 0, .ref 27, .ref 38, .int (nI i), x5, x6] [.int k] M1 Q := by
  refine am_istore d128_543 (Nat.le_of_ble_eq_true rfl) rfl ?_
  refine am_aload_n d128_545 rfl ?_
  refine am_aload_n d128_546 rfl ?_
  refine am_iload d128_547 rfl ?_
  refine am_iconst (nI 1) d128_549 (by decide) ?_
  refine am_addN d128_550 ?_
  refine am_saldN (i + 1) d128_551 (by rw [e2]; omega) (by rw [e2]; exact hl) ?_
  rw [e2]
  refine am_aload_n d128_552 rfl ?_
  refine am_iload d128_553 rfl ?_
  refine am_iconst (nI 2) d128_555 (by decide) ?_
  refine am_addN d128_556 ?_
  refine am_saldN (i + 2) d128_557 (by rw [e2]; omega) (by rw [e2]; exact hl) ?_
  rw [e2]
  refine am_aload_n d128_558 rfl ?_
  refine am_iload d128_559 rfl ?_
  refine am_iconst (nI 3) d128_561 (by decide) ?_
  refine am_addN d128_562 ?_
  refine am_saldN (i + 3) d128_563 (by rw [e2]; omega) (by rw [e2]; exact hl) ?_
  rw [e2]
  refine am_cv3 51 d128_564 ml128_97 rfl (by decide) sh_27 rfl rfl rfl rfl (Nat.le_of_ble_eq_true rfl) ?_
  exact h
theorem t_meeting {M2 : am_M} {Q : am_T} {i : Nat} {k v : Int32} {x6 : Value} (hk : M2.1 27 0 = k) (hv : k = 0 → M2.2.1 38 0 = v.toInt64) (next : ∀ x5 x6 : Value, am_W kL_law 1131 [.ref am_SC, .ref 0, .ref 27, .ref 38, .int (nI i), x5, x6] [] M2 Q) : am_W kL_law 635 [.ref am_SC, .ref 0, .ref 27, .ref 38, .int (nI i), .int k, x6] [.int v] M2 Q := by
  refine am_istore d128_635 (Nat.le_of_ble_eq_true rfl) rfl ?_
  refine am_aload_n d128_637 rfl ?_
  refine am_cv0 33 d128_638 ml128_75 rfl (by decide) sh_27 rfl  (Nat.le_of_ble_eq_true rfl) ?_
  refine m_thrown ?_
  show am_W 128 641 _ (.int _ :: _) _ _
  rw [hk]
  refine am_iload d128_641 rfl ?_
  refine am_iceq 648 d128_643 (by decide) (fun _ => ?_) (fun h => absurd rfl h)
  refine am_iload d128_648 rfl ?_
  refine am_ifne 665 d128_650 (by decide) (fun _ => ?_) (fun h0 => ?_)
  · refine am_goto 1131 d128_665 (by decide) ?_
    exact next _ _
  · refine am_aload_n d128_653 rfl ?_
    refine am_iconst (nI 0) d128_654 (by decide) ?_
    refine am_lald d128_655 sh_38 (nI_in (by decide) (by decide)) ?_
    show am_W 128 656 _ (.long (M2.2.1 38 0) :: _) _ _
    rw [hv h0]
    refine am_iload d128_656 rfl ?_
    refine am_i2l d128_658 ?_
    refine am_lcmp d128_659 ?_
    rw [lg_0]
    refine am_ifeq 665 d128_660 (by decide) (fun _ => ?_) (fun h => absurd rfl h)
    refine am_goto 1131 d128_665 (by decide) ?_
    exact next _ _
theorem u_meeting {M M1 : am_M} {Q : am_T} {i : Nat} {k : Int32} {x5 x6 : Value} (e2 : M1.2.2.2 = M.2.2.2) (hi : i + 6 ≤ M.2.2.2.1) (hl : M.2.2.2.1 < 2 ^ 31) (h : am_W kM_meeting 0 (am_in kM_meeting [.ref 27, .int (M.2.2.2.2 (i + 1)), .int (M.2.2.2.2 (i + 2))]) [] M1 (am_af am_W kL_law 632 [.ref am_SC, .ref 0, .ref 27, .ref 38, .int (nI i), .int k, x6] [] Q)) : am_W kL_law 617 [.ref am_SC, .ref 0, .ref 27, .ref 38, .int (nI i), x5, x6] [.int k] M1 Q := by
  refine am_istore d128_617 (Nat.le_of_ble_eq_true rfl) rfl ?_
  refine am_aload_n d128_619 rfl ?_
  refine am_aload_n d128_620 rfl ?_
  refine am_iload d128_621 rfl ?_
  refine am_iconst (nI 1) d128_623 (by decide) ?_
  refine am_addN d128_624 ?_
  refine am_saldN (i + 1) d128_625 (by rw [e2]; omega) (by rw [e2]; exact hl) ?_
  rw [e2]
  refine am_aload_n d128_626 rfl ?_
  refine am_iload d128_627 rfl ?_
  refine am_iconst (nI 2) d128_629 (by decide) ?_
  refine am_addN d128_630 ?_
  refine am_saldN (i + 2) d128_631 (by rw [e2]; omega) (by rw [e2]; exact hl) ?_
  rw [e2]
  refine am_cv2 55 d128_632 ml128_100 rfl (by decide) sh_27 rfl rfl rfl (Nat.le_of_ble_eq_true rfl) ?_
  exact h
theorem t_join {M2 : am_M} {Q : am_T} {i : Nat} {k v : Int32} {x6 : Value} (hk : M2.1 27 0 = k) (hv : k = 0 → M2.2.1 38 0 = v.toInt64) (next : ∀ x5 x6 : Value, am_W kL_law 1131 [.ref am_SC, .ref 0, .ref 27, .ref 38, .int (nI i), x5, x6] [] M2 Q) : am_W kL_law 703 [.ref am_SC, .ref 0, .ref 27, .ref 38, .int (nI i), .int k, x6] [.int v] M2 Q := by
  refine am_istore d128_703 (Nat.le_of_ble_eq_true rfl) rfl ?_
  refine am_aload_n d128_705 rfl ?_
  refine am_cv0 33 d128_706 ml128_75 rfl (by decide) sh_27 rfl  (Nat.le_of_ble_eq_true rfl) ?_
  refine m_thrown ?_
  show am_W 128 709 _ (.int _ :: _) _ _
  rw [hk]
  refine am_iload d128_709 rfl ?_
  refine am_iceq 716 d128_711 (by decide) (fun _ => ?_) (fun h => absurd rfl h)
  refine am_iload d128_716 rfl ?_
  refine am_ifne 733 d128_718 (by decide) (fun _ => ?_) (fun h0 => ?_)
  · refine am_goto 1131 d128_733 (by decide) ?_
    exact next _ _
  · refine am_aload_n d128_721 rfl ?_
    refine am_iconst (nI 0) d128_722 (by decide) ?_
    refine am_lald d128_723 sh_38 (nI_in (by decide) (by decide)) ?_
    show am_W 128 724 _ (.long (M2.2.1 38 0) :: _) _ _
    rw [hv h0]
    refine am_iload d128_724 rfl ?_
    refine am_i2l d128_726 ?_
    refine am_lcmp d128_727 ?_
    rw [lg_0]
    refine am_ifeq 733 d128_728 (by decide) (fun _ => ?_) (fun h => absurd rfl h)
    refine am_goto 1131 d128_733 (by decide) ?_
    exact next _ _
theorem u_join {M M1 : am_M} {Q : am_T} {i : Nat} {k : Int32} {x5 x6 : Value} (e2 : M1.2.2.2 = M.2.2.2) (hi : i + 6 ≤ M.2.2.2.1) (hl : M.2.2.2.1 < 2 ^ 31) (h : am_W kM_join 0 (am_in kM_join [.ref 27, .int (M.2.2.2.2 (i + 1)), .int (M.2.2.2.2 (i + 2))]) [] M1 (am_af am_W kL_law 700 [.ref am_SC, .ref 0, .ref 27, .ref 38, .int (nI i), .int k, x6] [] Q)) : am_W kL_law 685 [.ref am_SC, .ref 0, .ref 27, .ref 38, .int (nI i), x5, x6] [.int k] M1 Q := by
  refine am_istore d128_685 (Nat.le_of_ble_eq_true rfl) rfl ?_
  refine am_aload_n d128_687 rfl ?_
  refine am_aload_n d128_688 rfl ?_
  refine am_iload d128_689 rfl ?_
  refine am_iconst (nI 1) d128_691 (by decide) ?_
  refine am_addN d128_692 ?_
  refine am_saldN (i + 1) d128_693 (by rw [e2]; omega) (by rw [e2]; exact hl) ?_
  rw [e2]
  refine am_aload_n d128_694 rfl ?_
  refine am_iload d128_695 rfl ?_
  refine am_iconst (nI 2) d128_697 (by decide) ?_
  refine am_addN d128_698 ?_
  refine am_saldN (i + 2) d128_699 (by rw [e2]; omega) (by rw [e2]; exact hl) ?_
  rw [e2]
  refine am_cv2 57 d128_700 ml128_103 rfl (by decide) sh_27 rfl rfl rfl (Nat.le_of_ble_eq_true rfl) ?_
  exact h
theorem t_trim {M2 : am_M} {Q : am_T} {i : Nat} {k v : Int32} {x6 : Value} (hk : M2.1 27 0 = k) (hv : k = 0 → M2.2.1 38 0 = v.toInt64) (next : ∀ x5 x6 : Value, am_W kL_law 1131 [.ref am_SC, .ref 0, .ref 27, .ref 38, .int (nI i), x5, x6] [] M2 Q) : am_W kL_law 759 [.ref am_SC, .ref 0, .ref 27, .ref 38, .int (nI i), .int k, x6] [.int v] M2 Q := by
  refine am_istore d128_759 (Nat.le_of_ble_eq_true rfl) rfl ?_
  refine am_aload_n d128_761 rfl ?_
  refine am_cv0 33 d128_762 ml128_75 rfl (by decide) sh_27 rfl  (Nat.le_of_ble_eq_true rfl) ?_
  refine m_thrown ?_
  show am_W 128 765 _ (.int _ :: _) _ _
  rw [hk]
  refine am_iload d128_765 rfl ?_
  refine am_iceq 772 d128_767 (by decide) (fun _ => ?_) (fun h => absurd rfl h)
  refine am_iload d128_772 rfl ?_
  refine am_ifne 789 d128_774 (by decide) (fun _ => ?_) (fun h0 => ?_)
  · refine am_goto 1131 d128_789 (by decide) ?_
    exact next _ _
  · refine am_aload_n d128_777 rfl ?_
    refine am_iconst (nI 0) d128_778 (by decide) ?_
    refine am_lald d128_779 sh_38 (nI_in (by decide) (by decide)) ?_
    show am_W 128 780 _ (.long (M2.2.1 38 0) :: _) _ _
    rw [hv h0]
    refine am_iload d128_780 rfl ?_
    refine am_i2l d128_782 ?_
    refine am_lcmp d128_783 ?_
    rw [lg_0]
    refine am_ifeq 789 d128_784 (by decide) (fun _ => ?_) (fun h => absurd rfl h)
    refine am_goto 1131 d128_789 (by decide) ?_
    exact next _ _
theorem u_trim {M M1 : am_M} {Q : am_T} {i : Nat} {k : Int32} {x5 x6 : Value} (e2 : M1.2.2.2 = M.2.2.2) (hi : i + 6 ≤ M.2.2.2.1) (hl : M.2.2.2.1 < 2 ^ 31) (h : am_W kM_trim 0 (am_in kM_trim [.ref 27, .int (M.2.2.2.2 (i + 1))]) [] M1 (am_af am_W kL_law 756 [.ref am_SC, .ref 0, .ref 27, .ref 38, .int (nI i), .int k, x6] [] Q)) : am_W kL_law 747 [.ref am_SC, .ref 0, .ref 27, .ref 38, .int (nI i), x5, x6] [.int k] M1 Q := by
  refine am_istore d128_747 (Nat.le_of_ble_eq_true rfl) rfl ?_
  refine am_aload_n d128_749 rfl ?_
  refine am_aload_n d128_750 rfl ?_
  refine am_iload d128_751 rfl ?_
  refine am_iconst (nI 1) d128_753 (by decide) ?_
  refine am_addN d128_754 ?_
  refine am_saldN (i + 1) d128_755 (by rw [e2]; omega) (by rw [e2]; exact hl) ?_
  rw [e2]
  refine am_cv1 58 d128_756 ml128_107 rfl (by decide) sh_27 rfl rfl (Nat.le_of_ble_eq_true rfl) ?_
  exact h
theorem t_reach {M2 : am_M} {Q : am_T} {i : Nat} {k v : Int32} {x6 : Value} (hk : M2.1 27 0 = k) (hv : k = 0 → M2.2.1 38 0 = v.toInt64) (next : ∀ x5 x6 : Value, am_W kL_law 1131 [.ref am_SC, .ref 0, .ref 27, .ref 38, .int (nI i), x5, x6] [] M2 Q) : am_W kL_law 839 [.ref am_SC, .ref 0, .ref 27, .ref 38, .int (nI i), .int k, x6] [.int v] M2 Q := by
  refine am_istore d128_839 (Nat.le_of_ble_eq_true rfl) rfl ?_
  refine am_aload_n d128_841 rfl ?_
  refine am_cv0 33 d128_842 ml128_75 rfl (by decide) sh_27 rfl  (Nat.le_of_ble_eq_true rfl) ?_
  refine m_thrown ?_
  show am_W 128 845 _ (.int _ :: _) _ _
  rw [hk]
  refine am_iload d128_845 rfl ?_
  refine am_iceq 852 d128_847 (by decide) (fun _ => ?_) (fun h => absurd rfl h)
  refine am_iload d128_852 rfl ?_
  refine am_ifne 869 d128_854 (by decide) (fun _ => ?_) (fun h0 => ?_)
  · refine am_goto 1131 d128_869 (by decide) ?_
    exact next _ _
  · refine am_aload_n d128_857 rfl ?_
    refine am_iconst (nI 0) d128_858 (by decide) ?_
    refine am_lald d128_859 sh_38 (nI_in (by decide) (by decide)) ?_
    show am_W 128 860 _ (.long (M2.2.1 38 0) :: _) _ _
    rw [hv h0]
    refine am_iload d128_860 rfl ?_
    refine am_i2l d128_862 ?_
    refine am_lcmp d128_863 ?_
    rw [lg_0]
    refine am_ifeq 869 d128_864 (by decide) (fun _ => ?_) (fun h => absurd rfl h)
    refine am_goto 1131 d128_869 (by decide) ?_
    exact next _ _
theorem u_reach {M M1 : am_M} {Q : am_T} {i : Nat} {k : Int32} {x5 x6 : Value} (e2 : M1.2.2.2 = M.2.2.2) (hi : i + 6 ≤ M.2.2.2.1) (hl : M.2.2.2.1 < 2 ^ 31) (h : am_W kM_reach 0 (am_in kM_reach [.ref 27, .int (M.2.2.2.2 (i + 1)), .int (M.2.2.2.2 (i + 2)), .int (M.2.2.2.2 (i + 3))]) [] M1 (am_af am_W kL_law 836 [.ref am_SC, .ref 0, .ref 27, .ref 38, .int (nI i), .int k, x6] [] Q)) : am_W kL_law 815 [.ref am_SC, .ref 0, .ref 27, .ref 38, .int (nI i), x5, x6] [.int k] M1 Q := by
  refine am_istore d128_815 (Nat.le_of_ble_eq_true rfl) rfl ?_
  refine am_aload_n d128_817 rfl ?_
  refine am_aload_n d128_818 rfl ?_
  refine am_iload d128_819 rfl ?_
  refine am_iconst (nI 1) d128_821 (by decide) ?_
  refine am_addN d128_822 ?_
  refine am_saldN (i + 1) d128_823 (by rw [e2]; omega) (by rw [e2]; exact hl) ?_
  rw [e2]
  refine am_aload_n d128_824 rfl ?_
  refine am_iload d128_825 rfl ?_
  refine am_iconst (nI 2) d128_827 (by decide) ?_
  refine am_addN d128_828 ?_
  refine am_saldN (i + 2) d128_829 (by rw [e2]; omega) (by rw [e2]; exact hl) ?_
  rw [e2]
  refine am_aload_n d128_830 rfl ?_
  refine am_iload d128_831 rfl ?_
  refine am_iconst (nI 3) d128_833 (by decide) ?_
  refine am_addN d128_834 ?_
  refine am_saldN (i + 3) d128_835 (by rw [e2]; omega) (by rw [e2]; exact hl) ?_
  rw [e2]
  refine am_cv3 61 d128_836 ml128_110 rfl (by decide) sh_27 rfl rfl rfl rfl (Nat.le_of_ble_eq_true rfl) ?_
  exact h
theorem t_type {M2 : am_M} {Q : am_T} {i : Nat} {k v : Int32} {x6 : Value} (hk : M2.1 27 0 = k) (hv : k = 0 → M2.2.1 38 0 = v.toInt64) (next : ∀ x5 x6 : Value, am_W kL_law 1131 [.ref am_SC, .ref 0, .ref 27, .ref 38, .int (nI i), x5, x6] [] M2 Q) : am_W kL_law 895 [.ref am_SC, .ref 0, .ref 27, .ref 38, .int (nI i), .int k, x6] [.int v] M2 Q := by
  refine am_istore d128_895 (Nat.le_of_ble_eq_true rfl) rfl ?_
  refine am_aload_n d128_897 rfl ?_
  refine am_cv0 33 d128_898 ml128_75 rfl (by decide) sh_27 rfl  (Nat.le_of_ble_eq_true rfl) ?_
  refine m_thrown ?_
  show am_W 128 901 _ (.int _ :: _) _ _
  rw [hk]
  refine am_iload d128_901 rfl ?_
  refine am_iceq 908 d128_903 (by decide) (fun _ => ?_) (fun h => absurd rfl h)
  refine am_iload d128_908 rfl ?_
  refine am_ifne 925 d128_910 (by decide) (fun _ => ?_) (fun h0 => ?_)
  · refine am_goto 1131 d128_925 (by decide) ?_
    exact next _ _
  · refine am_aload_n d128_913 rfl ?_
    refine am_iconst (nI 0) d128_914 (by decide) ?_
    refine am_lald d128_915 sh_38 (nI_in (by decide) (by decide)) ?_
    show am_W 128 916 _ (.long (M2.2.1 38 0) :: _) _ _
    rw [hv h0]
    refine am_iload d128_916 rfl ?_
    refine am_i2l d128_918 ?_
    refine am_lcmp d128_919 ?_
    rw [lg_0]
    refine am_ifeq 925 d128_920 (by decide) (fun _ => ?_) (fun h => absurd rfl h)
    refine am_goto 1131 d128_925 (by decide) ?_
    exact next _ _
theorem u_type {M M1 : am_M} {Q : am_T} {i : Nat} {k : Int32} {x5 x6 : Value} (e2 : M1.2.2.2 = M.2.2.2) (hi : i + 6 ≤ M.2.2.2.1) (hl : M.2.2.2.1 < 2 ^ 31) (h : am_W kM_type 0 (am_in kM_type [.ref 27, .int (M.2.2.2.2 (i + 1))]) [] M1 (am_af am_W kL_law 892 [.ref am_SC, .ref 0, .ref 27, .ref 38, .int (nI i), .int k, x6] [] Q)) : am_W kL_law 883 [.ref am_SC, .ref 0, .ref 27, .ref 38, .int (nI i), x5, x6] [.int k] M1 Q := by
  refine am_istore d128_883 (Nat.le_of_ble_eq_true rfl) rfl ?_
  refine am_aload_n d128_885 rfl ?_
  refine am_aload_n d128_886 rfl ?_
  refine am_iload d128_887 rfl ?_
  refine am_iconst (nI 1) d128_889 (by decide) ?_
  refine am_addN d128_890 ?_
  refine am_saldN (i + 1) d128_891 (by rw [e2]; omega) (by rw [e2]; exact hl) ?_
  rw [e2]
  refine am_cv1 62 d128_892 ml128_113 rfl (by decide) sh_27 rfl rfl (Nat.le_of_ble_eq_true rfl) ?_
  exact h
theorem t_find {M2 : am_M} {Q : am_T} {i : Nat} {k v : Int32} {x6 : Value} (hk : M2.1 27 0 = k) (hv : k = 0 → M2.2.1 38 0 = v.toInt64) (next : ∀ x5 x6 : Value, am_W kL_law 1131 [.ref am_SC, .ref 0, .ref 27, .ref 38, .int (nI i), x5, x6] [] M2 Q) : am_W kL_law 974 [.ref am_SC, .ref 0, .ref 27, .ref 38, .int (nI i), .int k, x6] [.int v] M2 Q := by
  refine am_istore d128_974 (Nat.le_of_ble_eq_true rfl) rfl ?_
  refine am_aload_n d128_976 rfl ?_
  refine am_cv0 33 d128_977 ml128_75 rfl (by decide) sh_27 rfl  (Nat.le_of_ble_eq_true rfl) ?_
  refine m_thrown ?_
  show am_W 128 980 _ (.int _ :: _) _ _
  rw [hk]
  refine am_iload d128_980 rfl ?_
  refine am_iceq 987 d128_982 (by decide) (fun _ => ?_) (fun h => absurd rfl h)
  refine am_iload d128_987 rfl ?_
  refine am_ifne 1004 d128_989 (by decide) (fun _ => ?_) (fun h0 => ?_)
  · refine am_goto 1131 d128_1004 (by decide) ?_
    exact next _ _
  · refine am_aload_n d128_992 rfl ?_
    refine am_iconst (nI 0) d128_993 (by decide) ?_
    refine am_lald d128_994 sh_38 (nI_in (by decide) (by decide)) ?_
    show am_W 128 995 _ (.long (M2.2.1 38 0) :: _) _ _
    rw [hv h0]
    refine am_iload d128_995 rfl ?_
    refine am_i2l d128_997 ?_
    refine am_lcmp d128_998 ?_
    rw [lg_0]
    refine am_ifeq 1004 d128_999 (by decide) (fun _ => ?_) (fun h => absurd rfl h)
    refine am_goto 1131 d128_1004 (by decide) ?_
    exact next _ _
theorem u_find {M M1 : am_M} {Q : am_T} {i : Nat} {k : Int32} {x5 x6 : Value} (e2 : M1.2.2.2 = M.2.2.2) (hi : i + 6 ≤ M.2.2.2.1) (hl : M.2.2.2.1 < 2 ^ 31) (h : am_W kM_find 0 (am_in kM_find [.ref 27, .int (M.2.2.2.2 (i + 1)), .int (M.2.2.2.2 (i + 2))]) [] M1 (am_af am_W kL_law 971 [.ref am_SC, .ref 0, .ref 27, .ref 38, .int (nI i), .int k, x6] [] Q)) : am_W kL_law 956 [.ref am_SC, .ref 0, .ref 27, .ref 38, .int (nI i), x5, x6] [.int k] M1 Q := by
  refine am_istore d128_956 (Nat.le_of_ble_eq_true rfl) rfl ?_
  refine am_aload_n d128_958 rfl ?_
  refine am_aload_n d128_959 rfl ?_
  refine am_iload d128_960 rfl ?_
  refine am_iconst (nI 1) d128_962 (by decide) ?_
  refine am_addN d128_963 ?_
  refine am_saldN (i + 1) d128_964 (by rw [e2]; omega) (by rw [e2]; exact hl) ?_
  rw [e2]
  refine am_aload_n d128_965 rfl ?_
  refine am_iload d128_966 rfl ?_
  refine am_iconst (nI 2) d128_968 (by decide) ?_
  refine am_addN d128_969 ?_
  refine am_saldN (i + 2) d128_970 (by rw [e2]; omega) (by rw [e2]; exact hl) ?_
  rw [e2]
  refine am_cv2 73 d128_971 ml128_120 rfl (by decide) sh_27 rfl rfl rfl (Nat.le_of_ble_eq_true rfl) ?_
  exact h
theorem t_state {M2 : am_M} {Q : am_T} {i : Nat} {k v : Int32} {x6 : Value} (hk : M2.1 27 0 = k) (hv : k = 0 → M2.2.1 38 0 = v.toInt64) (next : ∀ x5 x6 : Value, am_W kL_law 1131 [.ref am_SC, .ref 0, .ref 27, .ref 38, .int (nI i), x5, x6] [] M2 Q) : am_W kL_law 1030 [.ref am_SC, .ref 0, .ref 27, .ref 38, .int (nI i), .int k, x6] [.int v] M2 Q := by
  refine am_istore d128_1030 (Nat.le_of_ble_eq_true rfl) rfl ?_
  refine am_aload_n d128_1032 rfl ?_
  refine am_cv0 33 d128_1033 ml128_75 rfl (by decide) sh_27 rfl  (Nat.le_of_ble_eq_true rfl) ?_
  refine m_thrown ?_
  show am_W 128 1036 _ (.int _ :: _) _ _
  rw [hk]
  refine am_iload d128_1036 rfl ?_
  refine am_iceq 1043 d128_1038 (by decide) (fun _ => ?_) (fun h => absurd rfl h)
  refine am_iload d128_1043 rfl ?_
  refine am_ifne 1060 d128_1045 (by decide) (fun _ => ?_) (fun h0 => ?_)
  · refine am_goto 1131 d128_1060 (by decide) ?_
    exact next _ _
  · refine am_aload_n d128_1048 rfl ?_
    refine am_iconst (nI 0) d128_1049 (by decide) ?_
    refine am_lald d128_1050 sh_38 (nI_in (by decide) (by decide)) ?_
    show am_W 128 1051 _ (.long (M2.2.1 38 0) :: _) _ _
    rw [hv h0]
    refine am_iload d128_1051 rfl ?_
    refine am_i2l d128_1053 ?_
    refine am_lcmp d128_1054 ?_
    rw [lg_0]
    refine am_ifeq 1060 d128_1055 (by decide) (fun _ => ?_) (fun h => absurd rfl h)
    refine am_goto 1131 d128_1060 (by decide) ?_
    exact next _ _
theorem u_state {M M1 : am_M} {Q : am_T} {i : Nat} {k : Int32} {x5 x6 : Value} (e2 : M1.2.2.2 = M.2.2.2) (hi : i + 6 ≤ M.2.2.2.1) (hl : M.2.2.2.1 < 2 ^ 31) (h : am_W kM_state 0 (am_in kM_state [.ref 27, .int (M.2.2.2.2 (i + 1))]) [] M1 (am_af am_W kL_law 1027 [.ref am_SC, .ref 0, .ref 27, .ref 38, .int (nI i), .int k, x6] [] Q)) : am_W kL_law 1018 [.ref am_SC, .ref 0, .ref 27, .ref 38, .int (nI i), x5, x6] [.int k] M1 Q := by
  refine am_istore d128_1018 (Nat.le_of_ble_eq_true rfl) rfl ?_
  refine am_aload_n d128_1020 rfl ?_
  refine am_aload_n d128_1021 rfl ?_
  refine am_iload d128_1022 rfl ?_
  refine am_iconst (nI 1) d128_1024 (by decide) ?_
  refine am_addN d128_1025 ?_
  refine am_saldN (i + 1) d128_1026 (by rw [e2]; omega) (by rw [e2]; exact hl) ?_
  rw [e2]
  refine am_cv1 74 d128_1027 ml128_123 rfl (by decide) sh_27 rfl rfl (Nat.le_of_ble_eq_true rfl) ?_
  exact h
theorem t_about {M2 : am_M} {Q : am_T} {i : Nat} {k v : Int32} {x6 : Value} (hk : M2.1 27 0 = k) (hv : k = 0 → M2.2.1 38 0 = v.toInt64) (next : ∀ x5 x6 : Value, am_W kL_law 1131 [.ref am_SC, .ref 0, .ref 27, .ref 38, .int (nI i), x5, x6] [] M2 Q) : am_W kL_law 1098 [.ref am_SC, .ref 0, .ref 27, .ref 38, .int (nI i), .int k, x6] [.int v] M2 Q := by
  refine am_istore d128_1098 (Nat.le_of_ble_eq_true rfl) rfl ?_
  refine am_aload_n d128_1100 rfl ?_
  refine am_cv0 33 d128_1101 ml128_75 rfl (by decide) sh_27 rfl  (Nat.le_of_ble_eq_true rfl) ?_
  refine m_thrown ?_
  show am_W 128 1104 _ (.int _ :: _) _ _
  rw [hk]
  refine am_iload d128_1104 rfl ?_
  refine am_iceq 1111 d128_1106 (by decide) (fun _ => ?_) (fun h => absurd rfl h)
  refine am_iload d128_1111 rfl ?_
  refine am_ifne 1128 d128_1113 (by decide) (fun _ => ?_) (fun h0 => ?_)
  · refine am_goto 1131 d128_1128 (by decide) ?_
    exact next _ _
  · refine am_aload_n d128_1116 rfl ?_
    refine am_iconst (nI 0) d128_1117 (by decide) ?_
    refine am_lald d128_1118 sh_38 (nI_in (by decide) (by decide)) ?_
    show am_W 128 1119 _ (.long (M2.2.1 38 0) :: _) _ _
    rw [hv h0]
    refine am_iload d128_1119 rfl ?_
    refine am_i2l d128_1121 ?_
    refine am_lcmp d128_1122 ?_
    rw [lg_0]
    refine am_ifeq 1128 d128_1123 (by decide) (fun _ => ?_) (fun h => absurd rfl h)
    refine am_goto 1131 d128_1128 (by decide) ?_
    exact next _ _
theorem u_about {M M1 : am_M} {Q : am_T} {i : Nat} {k : Int32} {x5 x6 : Value} (e2 : M1.2.2.2 = M.2.2.2) (hi : i + 6 ≤ M.2.2.2.1) (hl : M.2.2.2.1 < 2 ^ 31) (h : am_W kM_about 0 (am_in kM_about [.ref 27, .int (M.2.2.2.2 (i + 1)), .int (M.2.2.2.2 (i + 2))]) [] M1 (am_af am_W kL_law 1095 [.ref am_SC, .ref 0, .ref 27, .ref 38, .int (nI i), .int k, x6] [] Q)) : am_W kL_law 1080 [.ref am_SC, .ref 0, .ref 27, .ref 38, .int (nI i), x5, x6] [.int k] M1 Q := by
  refine am_istore d128_1080 (Nat.le_of_ble_eq_true rfl) rfl ?_
  refine am_aload_n d128_1082 rfl ?_
  refine am_aload_n d128_1083 rfl ?_
  refine am_iload d128_1084 rfl ?_
  refine am_iconst (nI 1) d128_1086 (by decide) ?_
  refine am_addN d128_1087 ?_
  refine am_saldN (i + 1) d128_1088 (by rw [e2]; omega) (by rw [e2]; exact hl) ?_
  rw [e2]
  refine am_aload_n d128_1089 rfl ?_
  refine am_iload d128_1090 rfl ?_
  refine am_iconst (nI 2) d128_1092 (by decide) ?_
  refine am_addN d128_1093 ?_
  refine am_saldN (i + 2) d128_1094 (by rw [e2]; omega) (by rw [e2]; exact hl) ?_
  rw [e2]
  refine am_cv2 75 d128_1095 ml128_126 rfl (by decide) sh_27 rfl rfl rfl (Nat.le_of_ble_eq_true rfl) ?_
  exact h
