/-! the law: the cases that only ask -/
theorem rd_jk {M M1 : am_M} (j : jk M M1) {b : Nat} {m : Int32} : bp_rd M1 b m ↔ bp_rd M b m := by
  unfold bp_rd
  rw [j.1 4 (by decide), j.1 3 (by decide), j.1 0 (by decide)]
theorem rl_v {M M1 : am_M} {pn : Nat → Nat} {nb nw ck len : Nat} {q : Nat → Nat} (hR : RL M1 pn nb nw ck len q) (j : jk M M1) : M1.1 34 = M.1 10 ∧ M1.1 35 = M.1 11 ∧ M1.1 32 = M.1 8 ∧ M1.1 33 = M.1 9 ∧ M1.1 31 = M.1 7 ∧ M1.1 29 = M.1 3 ∧ ∀ b x c, mo_row M1 pn nw b x c = sp_row (M.1 7) (M.1 8) (M.1 9) pn (M.1 3) nw b x c := by
  have hr := rl_row hR
  obtain ⟨_, _, ⟨e1, e2, e3, e4, e5, e6, e7, e8⟩, _⟩ := hR
  refine ⟨?_, ?_, ?_, ?_, ?_, ?_, fun b x c => ?_⟩
  · rw [e6, j.1 10 (by decide)]
  · rw [e7, j.1 11 (by decide)]
  · rw [e4, j.1 8 (by decide)]
  · rw [e5, j.1 9 (by decide)]
  · rw [e3, j.1 7 (by decide)]
  · rw [e2, j.1 3 (by decide)]
  · rw [hr, j.1 7 (by decide), j.1 8 (by decide), j.1 9 (by decide), j.1 3 (by decide)]
theorem s_read {M : am_M} {pn : Nat → Nat} {nb nw ck len : Nat} {q : Nat → Nat} {Q : am_T} {i : Nat} (hR : RL M pn nb nw ck len q) (hbud : 0 < M.2.2.1) (hi : i + 6 ≤ M.2.2.2.1) (hl : M.2.2.2.1 < 2 ^ 31) (hck : ck + 48 < 2 ^ 30) (next : nx M ck i Q) (x5 x6 : Value) : am_W kL_law 324 [.ref am_SC, .ref 0, .ref 27, .ref 38, .int (nI i), x5, x6] [] M Q := by
  have h6 : nb ≤ 6 := hR.1.2.1.1
  have hn31 : nb < 2 ^ 31 := by omega
  have hm := hR.2.1
  refine am_aload_n d128_324 rfl ?_
  refine am_aload_n d128_325 rfl ?_
  refine am_iload d128_326 rfl ?_
  refine am_iconst (nI 1) d128_328 (by decide) ?_
  refine am_addN d128_329 ?_
  refine am_saldN (i + 1) d128_330 (by omega) hl ?_
  refine am_aload_n d128_331 rfl ?_
  refine am_iload d128_332 rfl ?_
  refine am_iconst (nI 2) d128_334 (by decide) ?_
  refine am_addN d128_335 ?_
  refine am_saldN (i + 2) d128_336 (by omega) hl ?_
  refine am_aload_n d128_337 rfl ?_
  refine am_iload d128_338 rfl ?_
  refine am_iconst (nI 3) d128_340 (by decide) ?_
  refine am_addN d128_341 ?_
  refine am_saldN (i + 3) d128_342 (by omega) hl ?_
  refine am_aload_n d128_343 rfl ?_
  refine am_iload d128_344 rfl ?_
  refine am_iconst (nI 4) d128_346 (by decide) ?_
  refine am_addN d128_347 ?_
  refine am_saldN (i + 4) d128_348 (by omega) hl ?_
  refine am_aload_n d128_349 rfl ?_
  refine am_iload d128_350 rfl ?_
  refine am_iconst (nI 5) d128_352 (by decide) ?_
  refine am_addN d128_353 ?_
  refine am_saldN (i + 5) d128_354 (by omega) hl ?_
  refine am_aload_n d128_355 rfl ?_
  refine am_cs7 117 d128_356 ml128_87 rfl (by decide) rfl rfl rfl rfl rfl rfl rfl rfl (Nat.le_of_ble_eq_true rfl) ?_
  refine l_read hR.1 (fun y1 => ?_) (fun b o f y1 y2 y3 y4 y5 y6 y7 => ?_) (fun b o f y1 y2 y3 y4 y5 y6 y7 y8 M' y9 => ?_) hbud
  · show am_W 128 359 _ (.int 1 :: _) _ _
    refine u_read (M := M) rfl hi hl ?_
    refine q_read (M := am_pay M) hm (fun z M2 c => t_read c.2.2 (fun z => absurd z (by decide)) (nx_p hR next c)) (fun b' o' f' z1 z2 z3 z4 z5 z6 _ _ _ => absurd (⟨⟨b', z1, z2⟩, ⟨o', z3, z4⟩, ⟨f', z5, z6⟩⟩) (y1)) (fun b' o' f' z1 z2 z3 z4 z5 z6 _ _ _ _ => absurd (⟨⟨b', z1, z2⟩, ⟨o', z3, z4⟩, ⟨f', z5, z6⟩⟩) (y1))
  · show am_W 128 359 _ (.int 2 :: _) _ _
    refine u_read (M := M) rfl hi hl ?_
    refine q_read (M := am_pay M) hm (fun z _ _ => absurd (⟨⟨b, y1, y2⟩, ⟨o, y3, y4⟩, ⟨f, y5, y6⟩⟩) (z)) (fun b' o' f' z1 z2 z3 z4 z5 z6 z7 M2 c => t_read c.2.2 (fun z => absurd z (by decide)) (nx_p hR next c)) (fun b' o' f' z1 z2 z3 z4 z5 z6 z7 z8 _ _ => by have eb := nj hn31 y1 y2 z1 z2; subst eb; exact absurd ⟨(rl_rd hR z1 _).mp z7, z8⟩ y7)
  · show am_W 128 359 _ (.int 0 :: _) _ _
    have j1 : jk M (am_setL M' 38 0 (Int32.toInt64 (if (M.2.2.2.2 (i + 5)) = 0 then sp_get (M.1 10) 0 (sp_row (M.1 7) (M.1 8) (M.1 9) pn (M.1 3) nw b (M.2.2.2.2 (i + 2)) (4 * o + f)) else if (M.2.2.2.2 (i + 5)) = 1 then sp_get (M.1 11) 0 (sp_row (M.1 7) (M.1 8) (M.1 9) pn (M.1 3) nw b (M.2.2.2.2 (i + 2)) (4 * o + f)) else sp_get (M.1 8) (-1) (sp_row (M.1 7) (M.1 8) (M.1 9) pn (M.1 3) nw b (M.2.2.2.2 (i + 2)) (4 * o + f))))) := (jk_fr y9 (by decide) : jk M M')
    have hR1 : RL (am_setL M' 38 0 (Int32.toInt64 (if (M.2.2.2.2 (i + 5)) = 0 then sp_get (M.1 10) 0 (sp_row (M.1 7) (M.1 8) (M.1 9) pn (M.1 3) nw b (M.2.2.2.2 (i + 2)) (4 * o + f)) else if (M.2.2.2.2 (i + 5)) = 1 then sp_get (M.1 11) 0 (sp_row (M.1 7) (M.1 8) (M.1 9) pn (M.1 3) nw b (M.2.2.2.2 (i + 2)) (4 * o + f)) else sp_get (M.1 8) (-1) (sp_row (M.1 7) (M.1 8) (M.1 9) pn (M.1 3) nw b (M.2.2.2.2 (i + 2)) (4 * o + f))))) pn nb nw ck len q := rl_jk hR j1
    have V := rl_v hR1 j1
    refine u_read (M := M) (by show M'.2.2.2 = _; rw [show M'.2 = M.2 from y9.2]) hi hl ?_
    refine q_read (M := (am_setL M' 38 0 (Int32.toInt64 (if (M.2.2.2.2 (i + 5)) = 0 then sp_get (M.1 10) 0 (sp_row (M.1 7) (M.1 8) (M.1 9) pn (M.1 3) nw b (M.2.2.2.2 (i + 2)) (4 * o + f)) else if (M.2.2.2.2 (i + 5)) = 1 then sp_get (M.1 11) 0 (sp_row (M.1 7) (M.1 8) (M.1 9) pn (M.1 3) nw b (M.2.2.2.2 (i + 2)) (4 * o + f)) else sp_get (M.1 8) (-1) (sp_row (M.1 7) (M.1 8) (M.1 9) pn (M.1 3) nw b (M.2.2.2.2 (i + 2)) (4 * o + f)))))) hR1.2.1 (fun z _ _ => absurd (⟨⟨b, y1, y2⟩, ⟨o, y3, y4⟩, ⟨f, y5, y6⟩⟩) (z)) (fun b' o' f' z1 z2 z3 z4 z5 z6 z7 _ _ => by have eb := nj hn31 y1 y2 z1 z2; subst eb; exact absurd ⟨(rl_rd hR1 z1 _).mpr ((rd_jk j1).mpr y7), y8⟩ z7) (fun b' o' f' z1 z2 z3 z4 z5 z6 z7 z8 M2 c => t_read c.2.2 (fun _ => (cd_out c).trans (congrArg Int32.toInt64 (by have eb := nj hn31 y1 y2 z1 z2; have eo := nj (n := 12) (by decide) y3 y4 z3 z4; have ef := nj (n := 4) (by decide) y5 y6 z5 z6; subst eb; subst eo; subst ef; rw [V.1, V.2.1, V.2.2.1, V.2.2.2.2.2.2]))) (nx_r hR next (jk_fr y9 (by decide)) (y9.2) c))
theorem mk_b_j {M M1 : am_M} {pn : Nat → Nat} {nw b j : Nat} (h : jk M M1) : mk_b M1 pn nw b j = mk_b M pn nw b j := by
  unfold mk_b bp_first
  rw [h.1 0 (by decide), h.1 3 (by decide), h.1 4 (by decide), h.1 7 (by decide), h.1 8 (by decide), h.1 9 (by decide)]
theorem s_history {M : am_M} {pn : Nat → Nat} {nb nw ck len : Nat} {q : Nat → Nat} {Q : am_T} {i : Nat} (hR : RL M pn nb nw ck len q) (hbud : 0 < M.2.2.1) (hi : i + 6 ≤ M.2.2.2.1) (hl : M.2.2.2.1 < 2 ^ 31) (hck : ck + 48 < 2 ^ 30) (next : nx M ck i Q) (x5 x6 : Value) : am_W kL_law 428 [.ref am_SC, .ref 0, .ref 27, .ref 38, .int (nI i), x5, x6] [] M Q := by
  have h6 : nb ≤ 6 := hR.1.2.1.1
  have hn31 : nb < 2 ^ 31 := by omega
  have hm := hR.2.1
  refine am_aload_n d128_428 rfl ?_
  refine am_aload_n d128_429 rfl ?_
  refine am_iload d128_430 rfl ?_
  refine am_iconst (nI 1) d128_432 (by decide) ?_
  refine am_addN d128_433 ?_
  refine am_saldN (i + 1) d128_434 (by omega) hl ?_
  refine am_aload_n d128_435 rfl ?_
  refine am_iload d128_436 rfl ?_
  refine am_iconst (nI 2) d128_438 (by decide) ?_
  refine am_addN d128_439 ?_
  refine am_saldN (i + 2) d128_440 (by omega) hl ?_
  refine am_aload_n d128_441 rfl ?_
  refine am_iload d128_442 rfl ?_
  refine am_iconst (nI 3) d128_444 (by decide) ?_
  refine am_addN d128_445 ?_
  refine am_saldN (i + 3) d128_446 (by omega) hl ?_
  refine am_aload_n d128_447 rfl ?_
  refine am_iload d128_448 rfl ?_
  refine am_iconst (nI 4) d128_450 (by decide) ?_
  refine am_addN d128_451 ?_
  refine am_saldN (i + 4) d128_452 (by omega) hl ?_
  refine am_aload_n d128_453 rfl ?_
  refine am_cs6 118 d128_454 ml128_90 rfl (by decide) rfl rfl rfl rfl rfl rfl rfl (Nat.le_of_ble_eq_true rfl) ?_
  refine l_history hR.1 (fun y1 => ?_) (fun b o f y1 y2 y3 y4 y5 y6 M' y7 => ?_) hbud
  · show am_W 128 457 _ (.int 1 :: _) _ _
    refine u_history (M := M) rfl hi hl ?_
    refine q_history (M := am_pay M) hm (fun z M2 c => t_history c.2.2 (fun z => absurd z (by decide)) (nx_p hR next c)) (fun b' o' f' z1 z2 z3 z4 z5 z6 _ _ => absurd (⟨⟨b', z1, z2⟩, ⟨o', z3, z4⟩, ⟨f', z5, z6⟩⟩) (y1))
  · show am_W 128 457 _ (.int 0 :: _) _ _
    have j1 : jk M (am_setL M' 38 0 (Int32.toInt64 (sp_kth (fun i => mk_b M pn nw b i && decide (M.1 9 i = nI (4 * o + f))) (M.1 8) (M.2.2.2.2 (i + 4)) nw nw 0))) := (jk_fr y7 (by decide) : jk M M')
    have hR1 : RL (am_setL M' 38 0 (Int32.toInt64 (sp_kth (fun i => mk_b M pn nw b i && decide (M.1 9 i = nI (4 * o + f))) (M.1 8) (M.2.2.2.2 (i + 4)) nw nw 0))) pn nb nw ck len q := rl_jk hR j1
    have V := rl_v hR1 j1
    refine u_history (M := M) (by show M'.2.2.2 = _; rw [show M'.2 = M.2 from y7.2]) hi hl ?_
    refine q_history (M := (am_setL M' 38 0 (Int32.toInt64 (sp_kth (fun i => mk_b M pn nw b i && decide (M.1 9 i = nI (4 * o + f))) (M.1 8) (M.2.2.2.2 (i + 4)) nw nw 0)))) hR1.2.1 (fun z _ _ => absurd (⟨⟨b, y1, y2⟩, ⟨o, y3, y4⟩, ⟨f, y5, y6⟩⟩) (z)) (fun b' o' f' z1 z2 z3 z4 z5 z6 M2 c => t_history c.2.2 (fun _ => (cd_out c).trans (congrArg Int32.toInt64 (by have eb := nj hn31 y1 y2 z1 z2; have eo := nj (n := 12) (by decide) y3 y4 z3 z4; have ef := nj (n := 4) (by decide) y5 y6 z5 z6; subst eb; subst eo; subst ef; rw [V.2.2.1, V.2.2.2.1]; exact sp_kth_congr (fun k hk => by rw [rl_gv hR1 z1 hk, mk_b_j j1, Bool.and_comm]) (fun _ _ => rfl) nw 0 (Nat.le_refl _)))) (nx_r hR next (jk_fr y7 (by decide)) (y7.2) c))
theorem s_differs {M : am_M} {pn : Nat → Nat} {nb nw ck len : Nat} {q : Nat → Nat} {Q : am_T} {i : Nat} (hR : RL M pn nb nw ck len q) (hbud : 0 < M.2.2.1) (hi : i + 6 ≤ M.2.2.2.1) (hl : M.2.2.2.1 < 2 ^ 31) (hck : ck + 48 < 2 ^ 30) (next : nx M ck i Q) (x5 x6 : Value) : am_W kL_law 520 [.ref am_SC, .ref 0, .ref 27, .ref 38, .int (nI i), x5, x6] [] M Q := by
  have h6 : nb ≤ 6 := hR.1.2.1.1
  have hn31 : nb < 2 ^ 31 := by omega
  have hm := hR.2.1
  refine am_aload_n d128_520 rfl ?_
  refine am_aload_n d128_521 rfl ?_
  refine am_iload d128_522 rfl ?_
  refine am_iconst (nI 1) d128_524 (by decide) ?_
  refine am_addN d128_525 ?_
  refine am_saldN (i + 1) d128_526 (by omega) hl ?_
  refine am_aload_n d128_527 rfl ?_
  refine am_iload d128_528 rfl ?_
  refine am_iconst (nI 2) d128_530 (by decide) ?_
  refine am_addN d128_531 ?_
  refine am_saldN (i + 2) d128_532 (by omega) hl ?_
  refine am_aload_n d128_533 rfl ?_
  refine am_iload d128_534 rfl ?_
  refine am_iconst (nI 3) d128_536 (by decide) ?_
  refine am_addN d128_537 ?_
  refine am_saldN (i + 3) d128_538 (by omega) hl ?_
  refine am_aload_n d128_539 rfl ?_
  refine am_cs5 119 d128_540 ml128_94 rfl (by decide) rfl rfl rfl rfl rfl rfl (Nat.le_of_ble_eq_true rfl) ?_
  refine l_differs hR.1 (fun y1 => ?_) (fun b d y1 y2 y3 y4 y5 => ?_) (fun b d y1 y2 y3 y4 y5 y6 M' y7 => ?_) hbud
  · show am_W 128 543 _ (.int 1 :: _) _ _
    refine u_differs (M := M) rfl hi hl ?_
    refine q_differs (M := am_pay M) hm (fun z M2 c => t_differs c.2.2 (fun z => absurd z (by decide)) (nx_p hR next c)) (fun b' d' z1 z2 z3 z4 _ _ _ => absurd (⟨⟨b', z1, z2⟩, ⟨d', z3, z4⟩⟩) (y1)) (fun b' d' z1 z2 z3 z4 _ _ _ _ => absurd (⟨⟨b', z1, z2⟩, ⟨d', z3, z4⟩⟩) (y1))
  · show am_W 128 543 _ (.int 2 :: _) _ _
    refine u_differs (M := M) rfl hi hl ?_
    refine q_differs (M := am_pay M) hm (fun z _ _ => absurd (⟨⟨b, y1, y2⟩, ⟨d, y3, y4⟩⟩) (z)) (fun b' d' z1 z2 z3 z4 z5 M2 c => t_differs c.2.2 (fun z => absurd z (by decide)) (nx_p hR next c)) (fun b' d' z1 z2 z3 z4 z5 z6 _ _ => by have eb := nj hn31 y1 y2 z1 z2; have ed := nj hn31 y3 y4 z3 z4; subst eb; subst ed; exact absurd y5 (by rintro (y | y); exact ((hR.2.2.2.1 _ z1).mp z5) y; exact ((hR.2.2.2.1 _ z3).mp z6) y))
  · show am_W 128 543 _ (.int 0 :: _) _ _
    have j1 : jk M (am_setL M' 38 0 (Int32.toInt64 (sp_kth (fun i => !sr (M.1 10) (M.1 11) (sp_row (M.1 7) (M.1 8) (M.1 9) pn (M.1 3) nw b (nI ck) i) (sp_row (M.1 7) (M.1 8) (M.1 9) pn (M.1 3) nw d (nI ck) i)) nI (M.2.2.2.2 (i + 3)) 48 48 0))) := (jk_fr y7 (by decide) : jk M M')
    have hR1 : RL (am_setL M' 38 0 (Int32.toInt64 (sp_kth (fun i => !sr (M.1 10) (M.1 11) (sp_row (M.1 7) (M.1 8) (M.1 9) pn (M.1 3) nw b (nI ck) i) (sp_row (M.1 7) (M.1 8) (M.1 9) pn (M.1 3) nw d (nI ck) i)) nI (M.2.2.2.2 (i + 3)) 48 48 0))) pn nb nw ck len q := rl_jk hR j1
    have V := rl_v hR1 j1
    refine u_differs (M := M) (by show M'.2.2.2 = _; rw [show M'.2 = M.2 from y7.2]) hi hl ?_
    refine q_differs (M := (am_setL M' 38 0 (Int32.toInt64 (sp_kth (fun i => !sr (M.1 10) (M.1 11) (sp_row (M.1 7) (M.1 8) (M.1 9) pn (M.1 3) nw b (nI ck) i) (sp_row (M.1 7) (M.1 8) (M.1 9) pn (M.1 3) nw d (nI ck) i)) nI (M.2.2.2.2 (i + 3)) 48 48 0)))) hR1.2.1 (fun z _ _ => absurd (⟨⟨b, y1, y2⟩, ⟨d, y3, y4⟩⟩) (z)) (fun b' d' z1 z2 z3 z4 z5 _ _ => by have eb := nj hn31 y1 y2 z1 z2; have ed := nj hn31 y3 y4 z3 z4; subst eb; subst ed; exfalso; rcases z5 with z | z; exact z ((hR1.2.2.2.1 _ z1).mpr (by rw [j1.1 4 (by decide)]; exact y5)); exact z ((hR1.2.2.2.1 _ z3).mpr (by rw [j1.1 4 (by decide)]; exact y6))) (fun b' d' z1 z2 z3 z4 z5 z6 M2 c => t_differs c.2.2 (fun _ => (cd_out c).trans (congrArg Int32.toInt64 (by have eb := nj hn31 y1 y2 z1 z2; have ed := nj hn31 y3 y4 z3 z4; subst eb; subst ed; simp only [V.1, V.2.1, V.2.2.2.2.2.2]))) (nx_r hR next (jk_fr y7 (by decide)) (y7.2) c))
theorem s_meeting {M : am_M} {pn : Nat → Nat} {nb nw ck len : Nat} {q : Nat → Nat} {Q : am_T} {i : Nat} (hR : RL M pn nb nw ck len q) (hbud : 0 < M.2.2.1) (hi : i + 6 ≤ M.2.2.2.1) (hl : M.2.2.2.1 < 2 ^ 31) (hck : ck + 48 < 2 ^ 30) (next : nx M ck i Q) (x5 x6 : Value) : am_W kL_law 600 [.ref am_SC, .ref 0, .ref 27, .ref 38, .int (nI i), x5, x6] [] M Q := by
  have h6 : nb ≤ 6 := hR.1.2.1.1
  have hn31 : nb < 2 ^ 31 := by omega
  have hm := hR.2.1
  refine am_aload_n d128_600 rfl ?_
  refine am_aload_n d128_601 rfl ?_
  refine am_iload d128_602 rfl ?_
  refine am_iconst (nI 1) d128_604 (by decide) ?_
  refine am_addN d128_605 ?_
  refine am_saldN (i + 1) d128_606 (by omega) hl ?_
  refine am_aload_n d128_607 rfl ?_
  refine am_iload d128_608 rfl ?_
  refine am_iconst (nI 2) d128_610 (by decide) ?_
  refine am_addN d128_611 ?_
  refine am_saldN (i + 2) d128_612 (by omega) hl ?_
  refine am_aload_n d128_613 rfl ?_
  refine am_cs4 120 d128_614 ml128_98 rfl (by decide) rfl rfl rfl rfl rfl (Nat.le_of_ble_eq_true rfl) ?_
  refine l_meeting hR.1 (fun y1 => ?_) (fun b d y1 y2 y3 y4 => ?_) hbud
  · show am_W 128 617 _ (.int 1 :: _) _ _
    refine u_meeting (M := M) rfl hi hl ?_
    refine q_meeting (M := am_pay M) hm (fun z M2 c => t_meeting c.2.2 (fun z => absurd z (by decide)) (nx_p hR next c)) (fun b' d' z1 z2 z3 z4 _ _ => absurd (⟨⟨b', z1, z2⟩, ⟨d', z3, z4⟩⟩) (y1))
  · show am_W 128 617 _ (.int 0 :: _) _ _
    have j1 : jk M (am_setL M 38 0 (Int32.toInt64 (sp_meet pn (M.1 3) 12 (nI ck) b d))) := (jk.rf : jk M M)
    have hR1 : RL (am_setL M 38 0 (Int32.toInt64 (sp_meet pn (M.1 3) 12 (nI ck) b d))) pn nb nw ck len q := rl_jk hR j1
    have V := rl_v hR1 j1
    refine u_meeting (M := M) rfl hi hl ?_
    refine q_meeting (M := (am_setL M 38 0 (Int32.toInt64 (sp_meet pn (M.1 3) 12 (nI ck) b d)))) hR1.2.1 (fun z _ _ => absurd (⟨⟨b, y1, y2⟩, ⟨d, y3, y4⟩⟩) (z)) (fun b' d' z1 z2 z3 z4 M2 c => t_meeting c.2.2 (fun _ => (cd_out c).trans (congrArg Int32.toInt64 (by have eb := nj hn31 y1 y2 z1 z2; have ed := nj hn31 y3 y4 z3 z4; subst eb; subst ed; rw [V.2.2.2.2.2.1]; exact meet_mo hR.1.2.1.2.1 hR.2.2.2.2.2.1.2.2.2 hR.1.2.1.2.2.2 (nI_pos' (by omega)) hR.2.2.2.2.2.1.2.2.1 h6 z1 z3))) (nx_r hR next (jk.rf) (rfl) c))
theorem s_reach {M : am_M} {pn : Nat → Nat} {nb nw ck len : Nat} {q : Nat → Nat} {Q : am_T} {i : Nat} (hR : RL M pn nb nw ck len q) (hbud : 0 < M.2.2.1) (hi : i + 6 ≤ M.2.2.2.1) (hl : M.2.2.2.1 < 2 ^ 31) (hck : ck + 48 < 2 ^ 30) (next : nx M ck i Q) (x5 x6 : Value) : am_W kL_law 792 [.ref am_SC, .ref 0, .ref 27, .ref 38, .int (nI i), x5, x6] [] M Q := by
  have h6 : nb ≤ 6 := hR.1.2.1.1
  have hn31 : nb < 2 ^ 31 := by omega
  have hm := hR.2.1
  refine am_aload_n d128_792 rfl ?_
  refine am_aload_n d128_793 rfl ?_
  refine am_iload d128_794 rfl ?_
  refine am_iconst (nI 1) d128_796 (by decide) ?_
  refine am_addN d128_797 ?_
  refine am_saldN (i + 1) d128_798 (by omega) hl ?_
  refine am_aload_n d128_799 rfl ?_
  refine am_iload d128_800 rfl ?_
  refine am_iconst (nI 2) d128_802 (by decide) ?_
  refine am_addN d128_803 ?_
  refine am_saldN (i + 2) d128_804 (by omega) hl ?_
  refine am_aload_n d128_805 rfl ?_
  refine am_iload d128_806 rfl ?_
  refine am_iconst (nI 3) d128_808 (by decide) ?_
  refine am_addN d128_809 ?_
  refine am_saldN (i + 3) d128_810 (by omega) hl ?_
  refine am_aload_n d128_811 rfl ?_
  refine am_cs5 123 d128_812 ml128_108 rfl (by decide) rfl rfl rfl rfl rfl rfl (Nat.le_of_ble_eq_true rfl) ?_
  refine l_reach hR.1 (fun y1 => ?_) (fun b o y1 y2 y3 y4 y5 => ?_) (fun b o y1 y2 y3 y4 y5 M' y6 => ?_) hbud
  · show am_W 128 815 _ (.int 1 :: _) _ _
    refine u_reach (M := M) rfl hi hl ?_
    refine q_reach (M := am_pay M) hm (fun z M2 c => t_reach c.2.2 (fun z => absurd z (by decide)) (nx_p hR next c)) (fun b' z1 z2 z3 _ _ _ => absurd (⟨⟨b', z1, z2⟩, z3⟩) (y1)) (fun b' o' z1 z2 z3 z4 _ _ _ => absurd (⟨⟨b', z1, z2⟩, ⟨o', z3, z4⟩⟩) (y1))
  · show am_W 128 815 _ (.int 2 :: _) _ _
    refine u_reach (M := M) rfl hi hl ?_
    refine q_reach (M := am_pay M) hm (fun z _ _ => absurd (⟨⟨b, y1, y2⟩, ⟨o, y3, y4⟩⟩) (z)) (fun b' z1 z2 z3 z4 M2 c => t_reach c.2.2 (fun z => absurd z (by decide)) (nx_p hR next c)) (fun b' o' z1 z2 z3 z4 z5 _ _ => by have eb := nj hn31 y1 y2 z1 z2; subst eb; exact absurd ((rl_rd hR z1 _).mp z5) y5)
  · show am_W 128 815 _ (.int 0 :: _) _ _
    have j1 : jk M (am_setL M' 38 0 (Int32.toInt64 (sp_clo (sp_fld (fun t f => sp_refd (fun c => sp_get (M.1 10) 0 (sp_row (M.1 7) (M.1 8) (M.1 9) pn (M.1 3) nw b (M.2.2.2.2 (i + 2)) c)) (fun c => sp_get (M.1 11) 0 (sp_row (M.1 7) (M.1 8) (M.1 9) pn (M.1 3) nw b (M.2.2.2.2 (i + 2)) c)) t f) 4) 12 ((1 : Int32) <<< (nI o &&& 31)) 0))) := (jk_fr y6 (by decide) : jk M M')
    have hR1 : RL (am_setL M' 38 0 (Int32.toInt64 (sp_clo (sp_fld (fun t f => sp_refd (fun c => sp_get (M.1 10) 0 (sp_row (M.1 7) (M.1 8) (M.1 9) pn (M.1 3) nw b (M.2.2.2.2 (i + 2)) c)) (fun c => sp_get (M.1 11) 0 (sp_row (M.1 7) (M.1 8) (M.1 9) pn (M.1 3) nw b (M.2.2.2.2 (i + 2)) c)) t f) 4) 12 ((1 : Int32) <<< (nI o &&& 31)) 0))) pn nb nw ck len q := rl_jk hR j1
    have V := rl_v hR1 j1
    refine u_reach (M := M) (by show M'.2.2.2 = _; rw [show M'.2 = M.2 from y6.2]) hi hl ?_
    refine q_reach (M := (am_setL M' 38 0 (Int32.toInt64 (sp_clo (sp_fld (fun t f => sp_refd (fun c => sp_get (M.1 10) 0 (sp_row (M.1 7) (M.1 8) (M.1 9) pn (M.1 3) nw b (M.2.2.2.2 (i + 2)) c)) (fun c => sp_get (M.1 11) 0 (sp_row (M.1 7) (M.1 8) (M.1 9) pn (M.1 3) nw b (M.2.2.2.2 (i + 2)) c)) t f) 4) 12 ((1 : Int32) <<< (nI o &&& 31)) 0)))) hR1.2.1 (fun z _ _ => absurd (⟨⟨b, y1, y2⟩, ⟨o, y3, y4⟩⟩) (z)) (fun b' z1 z2 z3 z4 _ _ => by have eb := nj hn31 y1 y2 z1 z2; subst eb; exact absurd ((rl_rd hR1 z1 _).mpr ((rd_jk j1).mpr y5)) z4) (fun b' o' z1 z2 z3 z4 z5 M2 c => t_reach c.2.2 (fun _ => (cd_out c).trans (congrArg Int32.toInt64 (by have eb := nj hn31 y1 y2 z1 z2; have eo := nj (n := 12) (by decide) y3 y4 z3 z4; subst eb; subst eo; simp only [V.1, V.2.1, V.2.2.2.2.2.2]; exact clo_it 12 _ 0 (fun z => absurd (congrArg (fun t => tb t o') z) (by simp only [bt_1 (show o' < 32 by omega), bt_0]; simp))))) (nx_r hR next (jk_fr y6 (by decide)) (y6.2) c))
theorem s_state {M : am_M} {pn : Nat → Nat} {nb nw ck len : Nat} {q : Nat → Nat} {Q : am_T} {i : Nat} (hR : RL M pn nb nw ck len q) (hbud : 0 < M.2.2.1) (hi : i + 6 ≤ M.2.2.2.1) (hl : M.2.2.2.1 < 2 ^ 31) (hck : ck + 48 < 2 ^ 30) (next : nx M ck i Q) (x5 x6 : Value) : am_W kL_law 1007 [.ref am_SC, .ref 0, .ref 27, .ref 38, .int (nI i), x5, x6] [] M Q := by
  have h6 : nb ≤ 6 := hR.1.2.1.1
  have hn31 : nb < 2 ^ 31 := by omega
  have hm := hR.2.1
  refine am_aload_n d128_1007 rfl ?_
  refine am_aload_n d128_1008 rfl ?_
  refine am_iload d128_1009 rfl ?_
  refine am_iconst (nI 1) d128_1011 (by decide) ?_
  refine am_addN d128_1012 ?_
  refine am_saldN (i + 1) d128_1013 (by omega) hl ?_
  refine am_aload_n d128_1014 rfl ?_
  refine am_cs3 126 d128_1015 ml128_121 rfl (by decide) rfl rfl rfl rfl (Nat.le_of_ble_eq_true rfl) ?_
  refine l_state hR.1 (fun y1 => ?_) (fun y1 => ?_) hbud
  · show am_W 128 1018 _ (.int 1 :: _) _ _
    refine u_state (M := M) rfl hi hl ?_
    refine q_state (M := am_pay M) hm (fun z M2 c => t_state c.2.2 (fun z => absurd z (by decide)) (nx_p hR next c)) (fun z _ _ => absurd (z) (y1))
  · show am_W 128 1018 _ (.int 0 :: _) _ _
    have j1 : jk M (am_setL M 38 0 (Int32.toInt64 (if (M.2.2.2.2 (i + 1)) = 0 then M.1 0 6 else if (M.2.2.2.2 (i + 1)) = 1 then M.1 0 7 else if (M.2.2.2.2 (i + 1)) = 2 then nI nw else nI nb))) := (jk.rf : jk M M)
    have hR1 : RL (am_setL M 38 0 (Int32.toInt64 (if (M.2.2.2.2 (i + 1)) = 0 then M.1 0 6 else if (M.2.2.2.2 (i + 1)) = 1 then M.1 0 7 else if (M.2.2.2.2 (i + 1)) = 2 then nI nw else nI nb))) pn nb nw ck len q := rl_jk hR j1
    have V := rl_v hR1 j1
    refine u_state (M := M) rfl hi hl ?_
    refine q_state (M := (am_setL M 38 0 (Int32.toInt64 (if (M.2.2.2.2 (i + 1)) = 0 then M.1 0 6 else if (M.2.2.2.2 (i + 1)) = 1 then M.1 0 7 else if (M.2.2.2.2 (i + 1)) = 2 then nI nw else nI nb)))) hR1.2.1 (fun z _ _ => absurd (y1) (z)) (fun z M2 c => t_state c.2.2 (fun _ => (cd_out c).trans (congrArg Int32.toInt64 (by have e1 : M.1 27 1 = M.1 0 6 := rl_ck hR; have e2 : M.1 27 2 = M.1 0 7 := hR.2.2.2.2.1.1; show _ = (if (M.2.2.2.2 (i + 1)) = 0 then M.1 27 1 else if (M.2.2.2.2 (i + 1)) = 1 then M.1 27 2 else if (M.2.2.2.2 (i + 1)) = 2 then nI nw else nI nb); rw [e1, e2]))) (nx_r hR next (jk.rf) (rfl) c))
theorem s_about {M : am_M} {pn : Nat → Nat} {nb nw ck len : Nat} {q : Nat → Nat} {Q : am_T} {i : Nat} (hR : RL M pn nb nw ck len q) (hbud : 0 < M.2.2.1) (hi : i + 6 ≤ M.2.2.2.1) (hl : M.2.2.2.1 < 2 ^ 31) (hck : ck + 48 < 2 ^ 30) (next : nx M ck i Q) (x5 x6 : Value) : am_W kL_law 1063 [.ref am_SC, .ref 0, .ref 27, .ref 38, .int (nI i), x5, x6] [] M Q := by
  have h6 : nb ≤ 6 := hR.1.2.1.1
  have hn31 : nb < 2 ^ 31 := by omega
  have hm := hR.2.1
  refine am_aload_n d128_1063 rfl ?_
  refine am_aload_n d128_1064 rfl ?_
  refine am_iload d128_1065 rfl ?_
  refine am_iconst (nI 1) d128_1067 (by decide) ?_
  refine am_addN d128_1068 ?_
  refine am_saldN (i + 1) d128_1069 (by omega) hl ?_
  refine am_aload_n d128_1070 rfl ?_
  refine am_iload d128_1071 rfl ?_
  refine am_iconst (nI 2) d128_1073 (by decide) ?_
  refine am_addN d128_1074 ?_
  refine am_saldN (i + 2) d128_1075 (by omega) hl ?_
  refine am_aload_n d128_1076 rfl ?_
  refine am_cs4 127 d128_1077 ml128_124 rfl (by decide) rfl rfl rfl rfl rfl (Nat.le_of_ble_eq_true rfl) ?_
  refine l_about hR.1 (fun y1 => ?_) (fun b y1 y2 y3 => ?_) (fun b y1 y2 y3 => ?_) hbud
  · show am_W 128 1080 _ (.int 1 :: _) _ _
    refine u_about (M := M) rfl hi hl ?_
    refine q_about (M := am_pay M) hm (fun z M2 c => t_about c.2.2 (fun z => absurd z (by decide)) (nx_p hR next c)) (fun b' z1 z2 _ _ _ => absurd (⟨b', z1, z2⟩) (y1)) (fun b' z1 z2 _ _ _ => absurd (⟨b', z1, z2⟩) (y1))
  · show am_W 128 1080 _ (.int 2 :: _) _ _
    refine u_about (M := M) rfl hi hl ?_
    refine q_about (M := am_pay M) hm (fun z _ _ => absurd (⟨b, y1, y2⟩) (z)) (fun b' z1 z2 z3 M2 c => t_about c.2.2 (fun z => absurd z (by decide)) (nx_p hR next c)) (fun b' z1 z2 z3 _ _ => absurd (z3) (y3))
  · show am_W 128 1080 _ (.int 0 :: _) _ _
    have j1 : jk M (am_setL M 38 0 (Int32.toInt64 (if (M.2.2.2.2 (i + 2)) = 0 then (if M.1 4 b = 0 then 0 else 1) else if (M.2.2.2.2 (i + 2)) = 1 then M.1 2 b else if (M.2.2.2.2 (i + 2)) = 2 then M.1 3 b else nI (sp_cnt (fun i => decide (M.1 7 i = nI b)) nw)))) := (jk.rf : jk M M)
    have hR1 : RL (am_setL M 38 0 (Int32.toInt64 (if (M.2.2.2.2 (i + 2)) = 0 then (if M.1 4 b = 0 then 0 else 1) else if (M.2.2.2.2 (i + 2)) = 1 then M.1 2 b else if (M.2.2.2.2 (i + 2)) = 2 then M.1 3 b else nI (sp_cnt (fun i => decide (M.1 7 i = nI b)) nw)))) pn nb nw ck len q := rl_jk hR j1
    have V := rl_v hR1 j1
    refine u_about (M := M) rfl hi hl ?_
    refine q_about (M := (am_setL M 38 0 (Int32.toInt64 (if (M.2.2.2.2 (i + 2)) = 0 then (if M.1 4 b = 0 then 0 else 1) else if (M.2.2.2.2 (i + 2)) = 1 then M.1 2 b else if (M.2.2.2.2 (i + 2)) = 2 then M.1 3 b else nI (sp_cnt (fun i => decide (M.1 7 i = nI b)) nw))))) hR1.2.1 (fun z _ _ => absurd (⟨b, y1, y2⟩) (z)) (fun b' z1 z2 z3 _ _ => absurd (y3) (z3)) (fun b' z1 z2 z3 M2 c => t_about c.2.2 (fun _ => (cd_out c).trans (congrArg Int32.toInt64 (by have eb := nj hn31 y1 y2 z1 z2; subst eb; have ho := hR.2.2.2.1 _ z1; obtain ⟨_, _, ⟨e1, e2, e3, _⟩, _⟩ := hR; show _ = (if (M.2.2.2.2 (i + 2)) = 0 then (if M.1 30 b' = 0 then 1 else 0) else if (M.2.2.2.2 (i + 2)) = 1 then M.1 28 b' else if (M.2.2.2.2 (i + 2)) = 2 then M.1 29 b' else nI (sp_cnt (fun i => decide (M.1 31 i = nI b')) nw)); rw [e1, e2, e3]; by_cases z : M.1 4 b' = 0; (rw [if_pos z, if_neg (fun y => (ho.mp y) z)]); (rw [if_neg z, if_pos (ho.mpr z)])))) (nx_r hR next (jk.rf) (rfl) c))
