/-! the law's helpers: a call, its answer put down, its exceptions caught -/
theorem l_branch {pn : Nat → Nat} {nb nw ck : Nat} {M : am_M} {Q : am_T} (hS : bpS M pn nb nw ck) {a m : Int32} (h1 : ¬ ix a nb → Q (.inl (some (.int 1))) (am_pay M)) (h2 : ∀ b, b < nb → a = nI b → ¬ bp_rd M b m → Q (.inl (some (.int 2))) (am_pay M)) (h3 : ∀ b, b < nb → a = nI b → bp_rd M b m → nb = 6 → Q (.inl (some (.int 3))) (am_pay M)) (h0 : ∀ b, b < nb → a = nI b → bp_rd M b m → nb < 6 → Q (.inl (some (.int 0))) (am_setL (am_set (am_set (am_set (am_set M 2 nb (nI b)) 3 nb m) 4 nb 1) 1 4 (nI (nb + 1))) 38 0 (Int32.toInt64 (nI nb)))) (hbud : 0 < M.2.2.1) : am_W kL_branch 0 (am_in kL_branch [.ref 0, .int a, .int m, .ref 38]) [] M Q := by
  have fin : ∀ (v : Int32) (M' : am_M), Q (.inl (some (.int 0))) (am_setL M' 38 0 v.toInt64) → am_W kL_branch 8 [.ref 0, .int a, .int m, .ref 38, .null] (.int v :: [.int (nI 0), .ref 38]) M' Q := by
    intro v M' hq
    refine am_i2l d114_8 ?_
    refine am_last d114_9 sh_38 (nI_in (by decide) (by decide)) ?_
    refine am_goto 25 d114_10 (by decide) ?_
    refine am_iconst 0 d114_25 (by decide) ?_
    exact am_iret d114_26 rfl rfl hq
  show am_W kL_branch 0 _ [] M Q
  refine am_aload_n d114_0 rfl ?_
  refine am_iconst (nI 0) d114_1 (by decide) ?_
  refine am_aload_n d114_2 rfl ?_
  refine am_iload_n d114_3 rfl ?_
  refine am_iload_n d114_4 rfl ?_
  refine am_cv2 0 d114_5 ml114_7 rfl (by decide) sh_0 rfl rfl rfl (Nat.le_of_ble_eq_true rfl) ?_
  exact p_branch hS  (fun y1 => am_af_c (by decide) hbud (h1 y1)) (fun b y1 y2 y3 => am_af_c (by decide) hbud (h2 b y1 y2 y3)) (fun b y1 y2 y3 y4 => am_af_c (by decide) hbud (h3 b y1 y2 y3 y4)) (fun b y1 y2 y3 y4 => fin _ _ (h0 b y1 y2 y3 y4))
theorem l_close {pn : Nat → Nat} {nb nw ck : Nat} {M : am_M} {Q : am_T} (hS : bpS M pn nb nw ck) {a : Int32} (h1 : ¬ ix a nb → Q (.inl (some (.int 1))) (am_pay M)) (h2 : ∀ b, b < nb → a = nI b → M.1 4 b = 0 → Q (.inl (some (.int 2))) (am_pay M)) (h3 : ∀ b, b < nb → a = nI b → ¬ M.1 4 b = 0 → (sp_cnt (fun b => !decide (M.1 4 b = 0)) nb) = 1 → Q (.inl (some (.int 2))) (am_pay M)) (h0 : ∀ b, b < nb → a = nI b → ¬ M.1 4 b = 0 → ¬ (sp_cnt (fun b => !decide (M.1 4 b = 0)) nb) = 1 → Q (.inl (some (.int 0))) (am_set M 4 b 0)) (hbud : 0 < M.2.2.1) : am_W kL_close 0 (am_in kL_close [.ref 0, .int a]) [] M Q := by
  have fin0 : ∀ M' : am_M, Q (.inl (some (.int 0))) M' → am_W kL_close 5 [.ref 0, .int a, .null] [] M' Q := by
    intro M' hq
    refine am_goto 14 d115_5 (by decide) ?_
    refine am_iconst 0 d115_14 (by decide) ?_
    exact am_iret d115_15 rfl rfl hq
  show am_W kL_close 0 _ [] M Q
  refine am_aload_n d115_0 rfl ?_
  refine am_iload_n d115_1 rfl ?_
  refine am_cv1 1 d115_2 ml115_19 rfl (by decide) sh_0 rfl rfl (Nat.le_of_ble_eq_true rfl) ?_
  exact p_close hS  (fun y1 => am_af_c (by decide) hbud (h1 y1)) (fun b y1 y2 y3 => am_af_c (by decide) hbud (h2 b y1 y2 y3)) (fun b y1 y2 y3 y4 => am_af_c (by decide) hbud (h3 b y1 y2 y3 y4)) (fun b y1 y2 y3 y4 => fin0 _ (h0 b y1 y2 y3 y4))
theorem l_write {pn : Nat → Nat} {nb nw ck : Nat} {M : am_M} {Q : am_T} (hS : bpS M pn nb nw ck) {a u w x y : Int32} (h1 : ¬ (ix a nb ∧ ix u 12 ∧ ix w 4) → Q (.inl (some (.int 1))) (am_pay M)) (h2 : ∀ b o f, b < nb → a = nI b → o < 12 → u = nI o → f < 4 → w = nI f → ¬ (x = 0 ∨ x = 1 ∨ (x = 2 ∧ ix y 12)) → Q (.inl (some (.int 2))) (am_pay M)) (h3 : ∀ b o f, b < nb → a = nI b → o < 12 → u = nI o → f < 4 → w = nI f → (x = 0 ∨ x = 1 ∨ (x = 2 ∧ ix y 12)) → M.1 4 b = 0 → Q (.inl (some (.int 3))) (am_pay M)) (h4 : ∀ b o f, b < nb → a = nI b → o < 12 → u = nI o → f < 4 → w = nI f → (x = 0 ∨ x = 1 ∨ (x = 2 ∧ ix y 12)) → ¬ M.1 4 b = 0 → nw = 120 → Q (.inl (some (.int 4))) (am_pay M)) (h0 : ∀ b o f, b < nb → a = nI b → o < 12 → u = nI o → f < 4 → w = nI f → (x = 0 ∨ x = 1 ∨ (x = 2 ∧ ix y 12)) → ¬ M.1 4 b = 0 → nw < 120 → Q (.inl (some (.int 0))) (am_setL (sp_add (am_set M 0 6 (nI (ck + 1))) nw (nI b) (nI (ck + 1)) (nI (4 * o + f)) x (if x = 0 then 0 else y)) 38 0 (Int32.toInt64 (nI (ck + 1))))) (hbud : 0 < M.2.2.1) : am_W kL_write 0 (am_in kL_write [.ref 0, .int a, .int u, .int w, .int x, .int y, .ref 38]) [] M Q := by
  have fin : ∀ (v : Int32) (M' : am_M), Q (.inl (some (.int 0))) (am_setL M' 38 0 v.toInt64) → am_W kL_write 14 [.ref 0, .int a, .int u, .int w, .int x, .int y, .ref 38, .null] (.int v :: [.int (nI 0), .ref 38]) M' Q := by
    intro v M' hq
    refine am_i2l d116_14 ?_
    refine am_last d116_15 sh_38 (nI_in (by decide) (by decide)) ?_
    refine am_goto 35 d116_16 (by decide) ?_
    refine am_iconst 0 d116_35 (by decide) ?_
    exact am_iret d116_36 rfl rfl hq
  show am_W kL_write 0 _ [] M Q
  refine am_aload d116_0 rfl ?_
  refine am_iconst (nI 0) d116_2 (by decide) ?_
  refine am_aload_n d116_3 rfl ?_
  refine am_iload_n d116_4 rfl ?_
  refine am_iload_n d116_5 rfl ?_
  refine am_iload_n d116_6 rfl ?_
  refine am_iload d116_7 rfl ?_
  refine am_iload d116_9 rfl ?_
  refine am_cv5 2 d116_11 ml116_23 rfl (by decide) sh_0 rfl rfl rfl rfl rfl rfl (Nat.le_of_ble_eq_true rfl) ?_
  exact p_write hS  (fun y1 => am_af_c (by decide) hbud (h1 y1)) (fun b o f y1 y2 y3 y4 y5 y6 y7 => am_af_c (by decide) hbud (h2 b o f y1 y2 y3 y4 y5 y6 y7)) (fun b o f y1 y2 y3 y4 y5 y6 y7 y8 => am_af_c (by decide) hbud (h3 b o f y1 y2 y3 y4 y5 y6 y7 y8)) (fun b o f y1 y2 y3 y4 y5 y6 y7 y8 y9 => am_af_c (by decide) hbud (h4 b o f y1 y2 y3 y4 y5 y6 y7 y8 y9)) (fun b o f y1 y2 y3 y4 y5 y6 y7 y8 y9 => fin _ _ (h0 b o f y1 y2 y3 y4 y5 y6 y7 y8 y9))
theorem l_read {pn : Nat → Nat} {nb nw ck : Nat} {M : am_M} {Q : am_T} (hS : bpS M pn nb nw ck) {a m u w x : Int32} (h1 : ¬ (ix a nb ∧ ix u 12 ∧ ix w 4) → Q (.inl (some (.int 1))) (am_pay M)) (h2 : ∀ b o f, b < nb → a = nI b → o < 12 → u = nI o → f < 4 → w = nI f → ¬ (bp_rd M b m ∧ ix x 3) → Q (.inl (some (.int 2))) (am_pay M)) (h0 : ∀ b o f, b < nb → a = nI b → o < 12 → u = nI o → f < 4 → w = nI f → bp_rd M b m → ix x 3 → ∀ M', fr [5, 14, 15, 16] M M' → Q (.inl (some (.int 0))) (am_setL M' 38 0 (Int32.toInt64 (if x = 0 then sp_get (M.1 10) 0 (sp_row (M.1 7) (M.1 8) (M.1 9) pn (M.1 3) nw b m (4 * o + f)) else if x = 1 then sp_get (M.1 11) 0 (sp_row (M.1 7) (M.1 8) (M.1 9) pn (M.1 3) nw b m (4 * o + f)) else sp_get (M.1 8) (-1) (sp_row (M.1 7) (M.1 8) (M.1 9) pn (M.1 3) nw b m (4 * o + f)))))) (hbud : 0 < M.2.2.1) : am_W kL_read 0 (am_in kL_read [.ref 0, .int a, .int m, .int u, .int w, .int x, .ref 38]) [] M Q := by
  have fin : ∀ (v : Int32) (M' : am_M), Q (.inl (some (.int 0))) (am_setL M' 38 0 v.toInt64) → am_W kL_read 14 [.ref 0, .int a, .int m, .int u, .int w, .int x, .ref 38, .null] (.int v :: [.int (nI 0), .ref 38]) M' Q := by
    intro v M' hq
    refine am_i2l d117_14 ?_
    refine am_last d117_15 sh_38 (nI_in (by decide) (by decide)) ?_
    refine am_goto 27 d117_16 (by decide) ?_
    refine am_iconst 0 d117_27 (by decide) ?_
    exact am_iret d117_28 rfl rfl hq
  show am_W kL_read 0 _ [] M Q
  refine am_aload d117_0 rfl ?_
  refine am_iconst (nI 0) d117_2 (by decide) ?_
  refine am_aload_n d117_3 rfl ?_
  refine am_iload_n d117_4 rfl ?_
  refine am_iload_n d117_5 rfl ?_
  refine am_iload_n d117_6 rfl ?_
  refine am_iload d117_7 rfl ?_
  refine am_iload d117_9 rfl ?_
  refine am_cv5 3 d117_11 ml117_29 rfl (by decide) sh_0 rfl rfl rfl rfl rfl rfl (Nat.le_of_ble_eq_true rfl) ?_
  exact p_read hS  (fun y1 => am_af_c (by decide) hbud (h1 y1)) (fun b o f y1 y2 y3 y4 y5 y6 y7 => am_af_c (by decide) hbud (h2 b o f y1 y2 y3 y4 y5 y6 y7)) (fun b o f y1 y2 y3 y4 y5 y6 y7 y8 M' y9 => fin _ _ (h0 b o f y1 y2 y3 y4 y5 y6 y7 y8 M' y9))
theorem l_history {pn : Nat → Nat} {nb nw ck : Nat} {M : am_M} {Q : am_T} (hS : bpS M pn nb nw ck) {a u w k : Int32} (h1 : ¬ (ix a nb ∧ ix u 12 ∧ ix w 4) → Q (.inl (some (.int 1))) (am_pay M)) (h0 : ∀ b o f, b < nb → a = nI b → o < 12 → u = nI o → f < 4 → w = nI f → ∀ M', fr [5, 12, 14, 15, 16] M M' → Q (.inl (some (.int 0))) (am_setL M' 38 0 (Int32.toInt64 (sp_kth (fun i => mk_b M pn nw b i && decide (M.1 9 i = nI (4 * o + f))) (M.1 8) k nw nw 0)))) (hbud : 0 < M.2.2.1) : am_W kL_history 0 (am_in kL_history [.ref 0, .int a, .int u, .int w, .int k, .ref 38]) [] M Q := by
  have fin : ∀ (v : Int32) (M' : am_M), Q (.inl (some (.int 0))) (am_setL M' 38 0 v.toInt64) → am_W kL_history 12 [.ref 0, .int a, .int u, .int w, .int k, .ref 38, .null] (.int v :: [.int (nI 0), .ref 38]) M' Q := by
    intro v M' hq
    refine am_i2l d118_12 ?_
    refine am_last d118_13 sh_38 (nI_in (by decide) (by decide)) ?_
    refine am_goto 21 d118_14 (by decide) ?_
    refine am_iconst 0 d118_21 (by decide) ?_
    exact am_iret d118_22 rfl rfl hq
  show am_W kL_history 0 _ [] M Q
  refine am_aload d118_0 rfl ?_
  refine am_iconst (nI 0) d118_2 (by decide) ?_
  refine am_aload_n d118_3 rfl ?_
  refine am_iload_n d118_4 rfl ?_
  refine am_iload_n d118_5 rfl ?_
  refine am_iload_n d118_6 rfl ?_
  refine am_iload d118_7 rfl ?_
  refine am_cv4 4 d118_9 ml118_32 rfl (by decide) sh_0 rfl rfl rfl rfl rfl (Nat.le_of_ble_eq_true rfl) ?_
  exact p_history hS  (fun y1 => am_af_c (by decide) hbud (h1 y1)) (fun b o f y1 y2 y3 y4 y5 y6 M' y7 => fin _ _ (h0 b o f y1 y2 y3 y4 y5 y6 M' y7))
theorem l_differs {pn : Nat → Nat} {nb nw ck : Nat} {M : am_M} {Q : am_T} (hS : bpS M pn nb nw ck) {a e k : Int32} (h1 : ¬ (ix a nb ∧ ix e nb) → Q (.inl (some (.int 1))) (am_pay M)) (h2 : ∀ b d, b < nb → a = nI b → d < nb → e = nI d → (M.1 4 b = 0 ∨ M.1 4 d = 0) → Q (.inl (some (.int 2))) (am_pay M)) (h0 : ∀ b d, b < nb → a = nI b → d < nb → e = nI d → ¬ M.1 4 b = 0 → ¬ M.1 4 d = 0 → ∀ M', fr [5, 14, 15, 16, 18, 19, 20] M M' → Q (.inl (some (.int 0))) (am_setL M' 38 0 (Int32.toInt64 (sp_kth (fun i => !sr (M.1 10) (M.1 11) (sp_row (M.1 7) (M.1 8) (M.1 9) pn (M.1 3) nw b (nI ck) i) (sp_row (M.1 7) (M.1 8) (M.1 9) pn (M.1 3) nw d (nI ck) i)) nI k 48 48 0)))) (hbud : 0 < M.2.2.1) : am_W kL_differs 0 (am_in kL_differs [.ref 0, .int a, .int e, .int k, .ref 38]) [] M Q := by
  have fin : ∀ (v : Int32) (M' : am_M), Q (.inl (some (.int 0))) (am_setL M' 38 0 v.toInt64) → am_W kL_differs 10 [.ref 0, .int a, .int e, .int k, .ref 38, .null] (.int v :: [.int (nI 0), .ref 38]) M' Q := by
    intro v M' hq
    refine am_i2l d119_10 ?_
    refine am_last d119_11 sh_38 (nI_in (by decide) (by decide)) ?_
    refine am_goto 23 d119_12 (by decide) ?_
    refine am_iconst 0 d119_23 (by decide) ?_
    exact am_iret d119_24 rfl rfl hq
  show am_W kL_differs 0 _ [] M Q
  refine am_aload d119_0 rfl ?_
  refine am_iconst (nI 0) d119_2 (by decide) ?_
  refine am_aload_n d119_3 rfl ?_
  refine am_iload_n d119_4 rfl ?_
  refine am_iload_n d119_5 rfl ?_
  refine am_iload_n d119_6 rfl ?_
  refine am_cv3 5 d119_7 ml119_36 rfl (by decide) sh_0 rfl rfl rfl rfl (Nat.le_of_ble_eq_true rfl) ?_
  exact p_differs hS  (fun y1 => am_af_c (by decide) hbud (h1 y1)) (fun b d y1 y2 y3 y4 y5 => am_af_c (by decide) hbud (h2 b d y1 y2 y3 y4 y5)) (fun b d y1 y2 y3 y4 y5 y6 M' y7 => fin _ _ (h0 b d y1 y2 y3 y4 y5 y6 M' y7))
theorem l_meeting {pn : Nat → Nat} {nb nw ck : Nat} {M : am_M} {Q : am_T} (hS : bpS M pn nb nw ck) {a e : Int32} (h1 : ¬ (ix a nb ∧ ix e nb) → Q (.inl (some (.int 1))) (am_pay M)) (h0 : ∀ b d, b < nb → a = nI b → d < nb → e = nI d → Q (.inl (some (.int 0))) (am_setL M 38 0 (Int32.toInt64 (sp_meet pn (M.1 3) 12 (nI ck) b d)))) (hbud : 0 < M.2.2.1) : am_W kL_meeting 0 (am_in kL_meeting [.ref 0, .int a, .int e, .ref 38]) [] M Q := by
  have fin : ∀ (v : Int32) (M' : am_M), Q (.inl (some (.int 0))) (am_setL M' 38 0 v.toInt64) → am_W kL_meeting 8 [.ref 0, .int a, .int e, .ref 38, .null] (.int v :: [.int (nI 0), .ref 38]) M' Q := by
    intro v M' hq
    refine am_i2l d120_8 ?_
    refine am_last d120_9 sh_38 (nI_in (by decide) (by decide)) ?_
    refine am_goto 17 d120_10 (by decide) ?_
    refine am_iconst 0 d120_17 (by decide) ?_
    exact am_iret d120_18 rfl rfl hq
  show am_W kL_meeting 0 _ [] M Q
  refine am_aload_n d120_0 rfl ?_
  refine am_iconst (nI 0) d120_1 (by decide) ?_
  refine am_aload_n d120_2 rfl ?_
  refine am_iload_n d120_3 rfl ?_
  refine am_iload_n d120_4 rfl ?_
  refine am_cv2 6 d120_5 ml120_40 rfl (by decide) sh_0 rfl rfl rfl (Nat.le_of_ble_eq_true rfl) ?_
  exact p_meeting hS  (fun y1 => am_af_c (by decide) hbud (h1 y1)) (fun b d y1 y2 y3 y4 => fin _ _ (h0 b d y1 y2 y3 y4))
theorem l_join {pn : Nat → Nat} {nb nw ck : Nat} {M : am_M} {Q : am_T} (hS : bpS M pn nb nw ck) {a e : Int32} (hz : 0 ≤ M.1 0 7) (h1 : ¬ (ix a nb ∧ ix e nb) → Q (.inl (some (.int 1))) (am_pay M)) (h2 : ∀ b d, b < nb → a = nI b → d < nb → e = nI d → b = d → Q (.inl (some (.int 2))) (am_pay M)) (h3 : ∀ b d, b < nb → a = nI b → d < nb → e = nI d → ¬ b = d → (M.1 4 b = 0 ∨ M.1 4 d = 0 ∨ (sp_meet pn (M.1 3) 12 (nI ck) b d) < M.1 0 7) → Q (.inl (some (.int 3))) (am_pay M)) (h4 : ∀ b d, b < nb → a = nI b → d < nb → e = nI d → ¬ b = d → ¬ M.1 4 b = 0 → ¬ M.1 4 d = 0 → M.1 0 7 ≤ (sp_meet pn (M.1 3) 12 (nI ck) b d) → sp_cnt (jcf (M.1 10) (M.1 11) (sp_row (M.1 7) (M.1 8) (M.1 9) pn (M.1 3) nw b (nI ck)) (sp_row (M.1 7) (M.1 8) (M.1 9) pn (M.1 3) nw d (nI ck)) (sp_row (M.1 7) (M.1 8) (M.1 9) pn (M.1 3) nw b (sp_meet pn (M.1 3) 12 (nI ck) b d))) 48 = 0 → 120 < nw + sp_cnt (jca (M.1 10) (M.1 11) (sp_row (M.1 7) (M.1 8) (M.1 9) pn (M.1 3) nw b (nI ck)) (sp_row (M.1 7) (M.1 8) (M.1 9) pn (M.1 3) nw d (nI ck)) (sp_row (M.1 7) (M.1 8) (M.1 9) pn (M.1 3) nw b (sp_meet pn (M.1 3) 12 (nI ck) b d))) 48 → ∀ M', fr [5, 14, 15, 16, 18, 19, 20, 22, 23, 24] M M' → Q (.inl (some (.int 4))) (am_pay M')) (h5 : ∀ b d, b < nb → a = nI b → d < nb → e = nI d → ¬ b = d → ¬ M.1 4 b = 0 → ¬ M.1 4 d = 0 → M.1 0 7 ≤ (sp_meet pn (M.1 3) 12 (nI ck) b d) → ¬ sp_cnt (jcf (M.1 10) (M.1 11) (sp_row (M.1 7) (M.1 8) (M.1 9) pn (M.1 3) nw b (nI ck)) (sp_row (M.1 7) (M.1 8) (M.1 9) pn (M.1 3) nw d (nI ck)) (sp_row (M.1 7) (M.1 8) (M.1 9) pn (M.1 3) nw b (sp_meet pn (M.1 3) 12 (nI ck) b d))) 48 = 0 → ∀ M', fr [5, 14, 15, 16, 18, 19, 20, 22, 23, 24] M M' → Q (.inl (some (.int 0))) (am_setL M' 38 0 (Int32.toInt64 (nI (sp_cnt (jcf (M.1 10) (M.1 11) (sp_row (M.1 7) (M.1 8) (M.1 9) pn (M.1 3) nw b (nI ck)) (sp_row (M.1 7) (M.1 8) (M.1 9) pn (M.1 3) nw d (nI ck)) (sp_row (M.1 7) (M.1 8) (M.1 9) pn (M.1 3) nw b (sp_meet pn (M.1 3) 12 (nI ck) b d))) 48))))) (h0 : ∀ b d, b < nb → a = nI b → d < nb → e = nI d → ¬ b = d → ¬ M.1 4 b = 0 → ¬ M.1 4 d = 0 → M.1 0 7 ≤ (sp_meet pn (M.1 3) 12 (nI ck) b d) → sp_cnt (jcf (M.1 10) (M.1 11) (sp_row (M.1 7) (M.1 8) (M.1 9) pn (M.1 3) nw b (nI ck)) (sp_row (M.1 7) (M.1 8) (M.1 9) pn (M.1 3) nw d (nI ck)) (sp_row (M.1 7) (M.1 8) (M.1 9) pn (M.1 3) nw b (sp_meet pn (M.1 3) 12 (nI ck) b d))) 48 = 0 → nw + sp_cnt (jca (M.1 10) (M.1 11) (sp_row (M.1 7) (M.1 8) (M.1 9) pn (M.1 3) nw b (nI ck)) (sp_row (M.1 7) (M.1 8) (M.1 9) pn (M.1 3) nw d (nI ck)) (sp_row (M.1 7) (M.1 8) (M.1 9) pn (M.1 3) nw b (sp_meet pn (M.1 3) 12 (nI ck) b d))) 48 ≤ 120 → ∀ M', jf M M' (jca (M.1 10) (M.1 11) (sp_row (M.1 7) (M.1 8) (M.1 9) pn (M.1 3) nw b (nI ck)) (sp_row (M.1 7) (M.1 8) (M.1 9) pn (M.1 3) nw d (nI ck)) (sp_row (M.1 7) (M.1 8) (M.1 9) pn (M.1 3) nw b (sp_meet pn (M.1 3) 12 (nI ck) b d))) (fun c => sp_get (M.1 10) 0 ((sp_row (M.1 7) (M.1 8) (M.1 9) pn (M.1 3) nw b (nI ck)) c)) (fun c => sp_get (M.1 11) 0 ((sp_row (M.1 7) (M.1 8) (M.1 9) pn (M.1 3) nw b (nI ck)) c)) d nw ck → Q (.inl (some (.int 0))) (am_setL M' 38 0 (Int32.toInt64 (nI (sp_cnt (jcf (M.1 10) (M.1 11) (sp_row (M.1 7) (M.1 8) (M.1 9) pn (M.1 3) nw b (nI ck)) (sp_row (M.1 7) (M.1 8) (M.1 9) pn (M.1 3) nw d (nI ck)) (sp_row (M.1 7) (M.1 8) (M.1 9) pn (M.1 3) nw b (sp_meet pn (M.1 3) 12 (nI ck) b d))) 48))))) (hbud : 0 < M.2.2.1) : am_W kL_join 0 (am_in kL_join [.ref 0, .int a, .int e, .ref 38]) [] M Q := by
  have fin : ∀ (v : Int32) (M' : am_M), Q (.inl (some (.int 0))) (am_setL M' 38 0 v.toInt64) → am_W kL_join 8 [.ref 0, .int a, .int e, .ref 38, .null] (.int v :: [.int (nI 0), .ref 38]) M' Q := by
    intro v M' hq
    refine am_i2l d121_8 ?_
    refine am_last d121_9 sh_38 (nI_in (by decide) (by decide)) ?_
    refine am_goto 29 d121_10 (by decide) ?_
    refine am_iconst 0 d121_29 (by decide) ?_
    exact am_iret d121_30 rfl rfl hq
  show am_W kL_join 0 _ [] M Q
  refine am_aload_n d121_0 rfl ?_
  refine am_iconst (nI 0) d121_1 (by decide) ?_
  refine am_aload_n d121_2 rfl ?_
  refine am_iload_n d121_3 rfl ?_
  refine am_iload_n d121_4 rfl ?_
  refine am_cv2 7 d121_5 ml121_43 rfl (by decide) sh_0 rfl rfl rfl (Nat.le_of_ble_eq_true rfl) ?_
  exact p_join hS hz (fun y1 => am_af_c (by decide) hbud (h1 y1)) (fun b d y1 y2 y3 y4 y5 => am_af_c (by decide) hbud (h2 b d y1 y2 y3 y4 y5)) (fun b d y1 y2 y3 y4 y5 y6 => am_af_c (by decide) hbud (h3 b d y1 y2 y3 y4 y5 y6)) (fun b d y1 y2 y3 y4 y5 y6 y7 y8 y9 y10 M' y11 => am_af_c (by decide) (by rw [y11.2]; exact hbud) (h4 b d y1 y2 y3 y4 y5 y6 y7 y8 y9 y10 M' y11)) (fun b d y1 y2 y3 y4 y5 y6 y7 y8 y9 M' y10 => fin _ _ (h5 b d y1 y2 y3 y4 y5 y6 y7 y8 y9 M' y10)) (fun b d y1 y2 y3 y4 y5 y6 y7 y8 y9 y10 M' y11 => fin _ _ (h0 b d y1 y2 y3 y4 y5 y6 y7 y8 y9 y10 M' y11))
theorem l_trim {pn : Nat → Nat} {nb nw ck : Nat} {M : am_M} {Q : am_T} (hS : bpS M pn nb nw ck) {m : Int32} (h1 : (m < M.1 0 7 ∨ M.1 0 6 < m) → Q (.inl (some (.int 1))) (am_pay M)) (h0 : ¬ m < M.1 0 7 → m ≤ M.1 0 6 → ∀ M', fr [0, 5, 6, 7, 8, 9, 10, 11, 12, 14, 15, 16] M M' → M'.1 0 6 = M.1 0 6 → M'.1 0 7 = m → M'.1 6 6 = nI (sp_cnt (fun j => sp_any (fun b => mk_b (am_set M 0 7 m) pn nw b j) nb) nw) → (∀ p, 7 ≤ p → p ≤ 11 → M'.1 p = sp_cp (fun j => sp_any (fun b => mk_b (am_set M 0 7 m) pn nw b j) nb) (M.1 p) nw) → Q (.inl (some (.int 0))) (am_setL M' 38 0 (Int32.toInt64 (nI (nw - sp_cnt (fun j => sp_any (fun b => mk_b (am_set M 0 7 m) pn nw b j) nb) nw))))) (hbud : 0 < M.2.2.1) : am_W kL_trim 0 (am_in kL_trim [.ref 0, .int m, .ref 38]) [] M Q := by
  have fin : ∀ (v : Int32) (M' : am_M), Q (.inl (some (.int 0))) (am_setL M' 38 0 v.toInt64) → am_W kL_trim 7 [.ref 0, .int m, .ref 38, .null] (.int v :: [.int (nI 0), .ref 38]) M' Q := by
    intro v M' hq
    refine am_i2l d122_7 ?_
    refine am_last d122_8 sh_38 (nI_in (by decide) (by decide)) ?_
    refine am_goto 15 d122_9 (by decide) ?_
    refine am_iconst 0 d122_15 (by decide) ?_
    exact am_iret d122_16 rfl rfl hq
  show am_W kL_trim 0 _ [] M Q
  refine am_aload_n d122_0 rfl ?_
  refine am_iconst (nI 0) d122_1 (by decide) ?_
  refine am_aload_n d122_2 rfl ?_
  refine am_iload_n d122_3 rfl ?_
  refine am_cv1 8 d122_4 ml122_46 rfl (by decide) sh_0 rfl rfl (Nat.le_of_ble_eq_true rfl) ?_
  exact p_trim hS  (fun y1 => am_af_c (by decide) hbud (h1 y1)) (fun y1 y2 M' y3 y4 y5 y6 y7 => fin _ _ (h0 y1 y2 M' y3 y4 y5 y6 y7))
theorem l_reach {pn : Nat → Nat} {nb nw ck : Nat} {M : am_M} {Q : am_T} (hS : bpS M pn nb nw ck) {a m u : Int32} (h1 : ¬ (ix a nb ∧ ix u 12) → Q (.inl (some (.int 1))) (am_pay M)) (h2 : ∀ b o, b < nb → a = nI b → o < 12 → u = nI o → ¬ bp_rd M b m → Q (.inl (some (.int 2))) (am_pay M)) (h0 : ∀ b o, b < nb → a = nI b → o < 12 → u = nI o → bp_rd M b m → ∀ M', fr [5, 14, 15, 16] M M' → Q (.inl (some (.int 0))) (am_setL M' 38 0 (Int32.toInt64 (sp_clo (sp_fld (fun t f => sp_refd (fun c => sp_get (M.1 10) 0 (sp_row (M.1 7) (M.1 8) (M.1 9) pn (M.1 3) nw b m c)) (fun c => sp_get (M.1 11) 0 (sp_row (M.1 7) (M.1 8) (M.1 9) pn (M.1 3) nw b m c)) t f) 4) 12 ((1 : Int32) <<< (nI o &&& 31)) 0)))) (hbud : 0 < M.2.2.1) : am_W kL_reach 0 (am_in kL_reach [.ref 0, .int a, .int m, .int u, .ref 38]) [] M Q := by
  have fin : ∀ (v : Int32) (M' : am_M), Q (.inl (some (.int 0))) (am_setL M' 38 0 v.toInt64) → am_W kL_reach 10 [.ref 0, .int a, .int m, .int u, .ref 38, .null] (.int v :: [.int (nI 0), .ref 38]) M' Q := by
    intro v M' hq
    refine am_i2l d123_10 ?_
    refine am_last d123_11 sh_38 (nI_in (by decide) (by decide)) ?_
    refine am_goto 23 d123_12 (by decide) ?_
    refine am_iconst 0 d123_23 (by decide) ?_
    exact am_iret d123_24 rfl rfl hq
  show am_W kL_reach 0 _ [] M Q
  refine am_aload d123_0 rfl ?_
  refine am_iconst (nI 0) d123_2 (by decide) ?_
  refine am_aload_n d123_3 rfl ?_
  refine am_iload_n d123_4 rfl ?_
  refine am_iload_n d123_5 rfl ?_
  refine am_iload_n d123_6 rfl ?_
  refine am_cv3 9 d123_7 ml123_50 rfl (by decide) sh_0 rfl rfl rfl rfl (Nat.le_of_ble_eq_true rfl) ?_
  exact p_reach hS  (fun y1 => am_af_c (by decide) hbud (h1 y1)) (fun b o y1 y2 y3 y4 y5 => am_af_c (by decide) hbud (h2 b o y1 y2 y3 y4 y5)) (fun b o y1 y2 y3 y4 y5 M' y6 => fin _ _ (h0 b o y1 y2 y3 y4 y5 M' y6))
theorem l_type {pn : Nat → Nat} {nb nw ck : Nat} {M : am_M} {Q : am_T} (hS : bpS M pn nb nw ck) {w : Int32} {len : Nat} (hl : M.1 25 1 = nI len) (hl2 : len ≤ 32) (h1 : (∃ j, j < 4 ∧ ty_bad w j = true) → Q (.inl (some (.int 1))) (am_pay M)) (h2 : (∀ j, j < 4 → ¬ ty_bad w j = true) → ¬ len + sp_cnt (ty_on w) 4 ≤ 32 → Q (.inl (some (.int 2))) (am_pay M)) (h0 : (∀ j, j < 4 → ¬ ty_bad w j = true) → len + sp_cnt (ty_on w) 4 ≤ 32 → ∀ M', fr [25, 26] M M' → M'.1 25 1 = nI (len + sp_cnt (ty_on w) 4) → M'.1 26 = ty_t w (M.1 26) len 4 → Q (.inl (some (.int 0))) (am_setL M' 38 0 (Int32.toInt64 (nI (len + sp_cnt (ty_on w) 4))))) (hbud : 0 < M.2.2.1) : am_W kL_type 0 (am_in kL_type [.ref 0, .int w, .ref 38]) [] M Q := by
  have fin : ∀ (v : Int32) (M' : am_M), Q (.inl (some (.int 0))) (am_setL M' 38 0 v.toInt64) → am_W kL_type 7 [.ref 0, .int w, .ref 38, .null] (.int v :: [.int (nI 0), .ref 38]) M' Q := by
    intro v M' hq
    refine am_i2l d124_7 ?_
    refine am_last d124_8 sh_38 (nI_in (by decide) (by decide)) ?_
    refine am_goto 18 d124_9 (by decide) ?_
    refine am_iconst 0 d124_18 (by decide) ?_
    exact am_iret d124_19 rfl rfl hq
  show am_W kL_type 0 _ [] M Q
  refine am_aload_n d124_0 rfl ?_
  refine am_iconst (nI 0) d124_1 (by decide) ?_
  refine am_aload_n d124_2 rfl ?_
  refine am_iload_n d124_3 rfl ?_
  refine am_cv1 10 d124_4 ml124_53 rfl (by decide) sh_0 rfl rfl (Nat.le_of_ble_eq_true rfl) ?_
  exact p_type hS hl hl2 (fun y1 => am_af_c (by decide) hbud (h1 y1)) (fun y1 y2 => am_af_c (by decide) hbud (h2 y1 y2)) (fun y1 y2 M' y3 y4 y5 => fin _ _ (h0 y1 y2 M' y3 y4 y5))
theorem l_find {pn : Nat → Nat} {nb nw ck : Nat} {M : am_M} {Q : am_T} (hS : bpS M pn nb nw ck) {a m : Int32} {q : Nat → Nat} {len : Nat} (ht : tx M q len) (h1 : ¬ ix a nb → Q (.inl (some (.int 1))) (am_pay M)) (h2 : ∀ b, b < nb → a = nI b → ¬ bp_rd M b m → Q (.inl (some (.int 2))) (am_pay M)) (h0 : ∀ b, b < nb → a = nI b → bp_rd M b m → ∀ M', fr [5, 14, 15, 16, 25] M M' → M'.1 25 1 = M.1 25 1 → Q (.inl (some (.int 0))) (am_setL M' 38 0 (Int32.toInt64 (ps_find (fun c => sp_get (M.1 10) 0 (sp_row (M.1 7) (M.1 8) (M.1 9) pn (M.1 3) nw b m c)) (fun c => sp_get (M.1 11) 0 (sp_row (M.1 7) (M.1 8) (M.1 9) pn (M.1 3) nw b m c)) q len)))) (hbud : 0 < M.2.2.1) : am_W kL_find 0 (am_in kL_find [.ref 0, .int a, .int m, .ref 38]) [] M Q := by
  have fin : ∀ (v : Int32) (M' : am_M), Q (.inl (some (.int 0))) (am_setL M' 38 0 v.toInt64) → am_W kL_find 8 [.ref 0, .int a, .int m, .ref 38, .null] (.int v :: [.int (nI 0), .ref 38]) M' Q := by
    intro v M' hq
    refine am_i2l d125_8 ?_
    refine am_last d125_9 sh_38 (nI_in (by decide) (by decide)) ?_
    refine am_goto 21 d125_10 (by decide) ?_
    refine am_iconst 0 d125_21 (by decide) ?_
    exact am_iret d125_22 rfl rfl hq
  show am_W kL_find 0 _ [] M Q
  refine am_aload_n d125_0 rfl ?_
  refine am_iconst (nI 0) d125_1 (by decide) ?_
  refine am_aload_n d125_2 rfl ?_
  refine am_iload_n d125_3 rfl ?_
  refine am_iload_n d125_4 rfl ?_
  refine am_cv2 12 d125_5 ml125_56 rfl (by decide) sh_0 rfl rfl rfl (Nat.le_of_ble_eq_true rfl) ?_
  exact p_find hS ht (fun y1 => am_af_c (by decide) hbud (h1 y1)) (fun b y1 y2 y3 => am_af_c (by decide) hbud (h2 b y1 y2 y3)) (fun b y1 y2 y3 M' y4 y5 => fin _ _ (h0 b y1 y2 y3 M' y4 y5))
theorem l_state {pn : Nat → Nat} {nb nw ck : Nat} {M : am_M} {Q : am_T} (hS : bpS M pn nb nw ck) {w : Int32} (h1 : ¬ ix w 4 → Q (.inl (some (.int 1))) (am_pay M)) (h0 : ix w 4 → Q (.inl (some (.int 0))) (am_setL M 38 0 (Int32.toInt64 (if w = 0 then M.1 0 6 else if w = 1 then M.1 0 7 else if w = 2 then nI nw else nI nb)))) (hbud : 0 < M.2.2.1) : am_W kL_state 0 (am_in kL_state [.ref 0, .int w, .ref 38]) [] M Q := by
  have fin : ∀ (v : Int32) (M' : am_M), Q (.inl (some (.int 0))) (am_setL M' 38 0 v.toInt64) → am_W kL_state 7 [.ref 0, .int w, .ref 38, .null] (.int v :: [.int (nI 0), .ref 38]) M' Q := by
    intro v M' hq
    refine am_i2l d126_7 ?_
    refine am_last d126_8 sh_38 (nI_in (by decide) (by decide)) ?_
    refine am_goto 15 d126_9 (by decide) ?_
    refine am_iconst 0 d126_15 (by decide) ?_
    exact am_iret d126_16 rfl rfl hq
  show am_W kL_state 0 _ [] M Q
  refine am_aload_n d126_0 rfl ?_
  refine am_iconst (nI 0) d126_1 (by decide) ?_
  refine am_aload_n d126_2 rfl ?_
  refine am_iload_n d126_3 rfl ?_
  refine am_cv1 13 d126_4 ml126_59 rfl (by decide) sh_0 rfl rfl (Nat.le_of_ble_eq_true rfl) ?_
  exact p_state hS  (fun y1 => am_af_c (by decide) hbud (h1 y1)) (fun y1 => fin _ _ (h0 y1))
theorem l_about {pn : Nat → Nat} {nb nw ck : Nat} {M : am_M} {Q : am_T} (hS : bpS M pn nb nw ck) {a w : Int32} (h1 : ¬ ix a nb → Q (.inl (some (.int 1))) (am_pay M)) (h2 : ∀ b, b < nb → a = nI b → ¬ ix w 4 → Q (.inl (some (.int 2))) (am_pay M)) (h0 : ∀ b, b < nb → a = nI b → ix w 4 → Q (.inl (some (.int 0))) (am_setL M 38 0 (Int32.toInt64 (if w = 0 then (if M.1 4 b = 0 then 0 else 1) else if w = 1 then M.1 2 b else if w = 2 then M.1 3 b else nI (sp_cnt (fun i => decide (M.1 7 i = nI b)) nw))))) (hbud : 0 < M.2.2.1) : am_W kL_about 0 (am_in kL_about [.ref 0, .int a, .int w, .ref 38]) [] M Q := by
  have fin : ∀ (v : Int32) (M' : am_M), Q (.inl (some (.int 0))) (am_setL M' 38 0 v.toInt64) → am_W kL_about 8 [.ref 0, .int a, .int w, .ref 38, .null] (.int v :: [.int (nI 0), .ref 38]) M' Q := by
    intro v M' hq
    refine am_i2l d127_8 ?_
    refine am_last d127_9 sh_38 (nI_in (by decide) (by decide)) ?_
    refine am_goto 21 d127_10 (by decide) ?_
    refine am_iconst 0 d127_21 (by decide) ?_
    exact am_iret d127_22 rfl rfl hq
  show am_W kL_about 0 _ [] M Q
  refine am_aload_n d127_0 rfl ?_
  refine am_iconst (nI 0) d127_1 (by decide) ?_
  refine am_aload_n d127_2 rfl ?_
  refine am_iload_n d127_3 rfl ?_
  refine am_iload_n d127_4 rfl ?_
  refine am_cv2 14 d127_5 ml127_62 rfl (by decide) sh_0 rfl rfl rfl (Nat.le_of_ble_eq_true rfl) ?_
  exact p_about hS  (fun y1 => am_af_c (by decide) hbud (h1 y1)) (fun b y1 y2 y3 => am_af_c (by decide) hbud (h2 b y1 y2 y3)) (fun b y1 y2 y3 => fin _ _ (h0 b y1 y2 y3))
