/-! the small methods of BranchedPast -/
theorem c_isObject {x : Int32} {M : am_M} {Q : am_T} (h1 : ix x 12 → Q (.inl (some (.int 1))) M) (h0 : ¬ ix x 12 → Q (.inl (some (.int 0))) M) : am_W kX_isObject 0 (am_in kX_isObject [.int x]) [] M Q := by
  show am_W kX_isObject 0 _ [] M Q
  refine am_iload_n d30_0 rfl ?_
  refine am_iflt 14 d30_1 (by decide) (fun g1 => ?_) (fun g1 => ?_)
  · refine am_iconst 0 d30_14 (by decide) ?_
    refine am_iret d30_15 rfl (by decide) ?_
    first | exact h1 (ix_in (by decide) g1 h7) | exact h0 (ix_neg (by decide) g1) | exact h0 (ix_ge (by decide) h7)
  · refine am_iload_n d30_4 rfl ?_
    refine am_bipush (nI 12) d30_5 (by decide) ?_
    refine am_icge 14 d30_7 (by decide) (fun h7 => ?_) (fun h7 => ?_)
    · refine am_iconst 0 d30_14 (by decide) ?_
      refine am_iret d30_15 rfl (by decide) ?_
      first | exact h1 (ix_in (by decide) g1 h7) | exact h0 (ix_neg (by decide) g1) | exact h0 (ix_ge (by decide) h7)
    · refine am_iconst 1 d30_10 (by decide) ?_
      refine am_goto 15 d30_11 (by decide) ?_
      refine am_iret d30_15 rfl (by decide) ?_
      first | exact h1 (ix_in (by decide) g1 h7) | exact h0 (ix_neg (by decide) g1) | exact h0 (ix_ge (by decide) h7)
theorem c_cellOf {a b : Nat} {M : am_M} {Q : am_T} (hQ : Q (.inl (some (.int (nI (4 * a + b))))) M) : am_W kX_cellOf 0 (am_in kX_cellOf [.int (nI a), .int (nI b)]) [] M Q := by
  show am_W kX_cellOf 0 _ [] M Q
  refine am_iconst (nI 4) d32_0 (by decide) ?_
  refine am_iload_n d32_1 rfl ?_
  refine am_mulN d32_2 ?_
  refine am_iload_n d32_3 rfl ?_
  refine am_addN d32_4 ?_
  refine am_iret d32_5 rfl rfl ?_
  exact hQ
theorem c_requireObject {x : Int32} {M : am_M} {Q : am_T} (hok : ix x 12 → Q (.inl none) M) (hbad : ¬ ix x 12 → Q (.inr 0) M) : am_W kX_requireObject 0 (am_in kX_requireObject [.int x]) [] M Q := by
  show am_W kX_requireObject 0 _ [] M Q
  refine am_iload_n d16_0 rfl ?_
  refine am_cs1 30 d16_1 ml16_201 rfl (by decide) rfl rfl (Nat.le_of_ble_eq_true rfl) ?_
  refine c_isObject (fun o1 => ?_) (fun o1 => ?_)
  · show am_W 16 4 _ (.int 1 :: _) _ _
    refine am_ifne 17 d16_4 (by decide) (fun h4 => ?_) (fun h4 => ?_)
    · refine am_vret d16_17 rfl ?_
      first | exact hok o1 | exact absurd rfl h4
    · refine am_thr (x := 0) d16_7 (by decide) (Nat.le_of_ble_eq_true rfl) ?_
      first | exact hbad o1 | exact absurd h4 (by decide)
  · show am_W 16 4 _ (.int 0 :: _) _ _
    refine am_ifne 17 d16_4 (by decide) (fun h4 => ?_) (fun h4 => ?_)
    · refine am_vret d16_17 rfl ?_
      first | exact hok o1 | exact absurd rfl h4
    · refine am_thr (x := 0) d16_7 (by decide) (Nat.le_of_ble_eq_true rfl) ?_
      first | exact hbad o1 | exact absurd h4 (by decide)
theorem c_isValue {x y : Int32} {M : am_M} {Q : am_T} (h1 : (x = 0 ∨ x = 1 ∨ (x = 2 ∧ ix y 12)) → Q (.inl (some (.int 1))) M) (h0 : ¬ (x = 0 ∨ x = 1 ∨ (x = 2 ∧ ix y 12)) → Q (.inl (some (.int 0))) M) : am_W kX_isValue 0 (am_in kX_isValue [.int x, .int y]) [] M Q := by
  have k1 := h1
  have k0 := h0
  clear h1 h0
  show am_W kX_isValue 0 _ [] M Q
  refine am_iload_n d31_0 rfl ?_
  refine am_ifeq 21 d31_1 (by decide) (fun h1 => ?_) (fun h1 => ?_)
  · refine am_iconst 1 d31_21 (by decide) ?_
    refine am_goto 26 d31_22 (by decide) ?_
    refine am_iret d31_26 rfl (by decide) ?_
    first | exact k1 (Or.inl h1) | exact k1 (Or.inr (Or.inl h6)) | exact k1 (Or.inr (Or.inr ⟨h11, o15⟩)) | exact absurd h18 (by decide) | exact absurd rfl h18 | exact k0 (fun z => z.elim h1 (fun z => z.elim h6 (fun z => h11 z.1))) | exact k0 (fun z => z.elim h1 (fun z => z.elim h6 (fun z => o15 z.2)))
  · refine am_iload_n d31_4 rfl ?_
    refine am_iconst 1 d31_5 (by decide) ?_
    refine am_iceq 21 d31_6 (by decide) (fun h6 => ?_) (fun h6 => ?_)
    · refine am_iconst 1 d31_21 (by decide) ?_
      refine am_goto 26 d31_22 (by decide) ?_
      refine am_iret d31_26 rfl (by decide) ?_
      first | exact k1 (Or.inl h1) | exact k1 (Or.inr (Or.inl h6)) | exact k1 (Or.inr (Or.inr ⟨h11, o15⟩)) | exact absurd h18 (by decide) | exact absurd rfl h18 | exact k0 (fun z => z.elim h1 (fun z => z.elim h6 (fun z => h11 z.1))) | exact k0 (fun z => z.elim h1 (fun z => z.elim h6 (fun z => o15 z.2)))
    · refine am_iload_n d31_9 rfl ?_
      refine am_iconst 2 d31_10 (by decide) ?_
      refine am_icne 25 d31_11 (by decide) (fun h11 => ?_) (fun h11 => ?_)
      · refine am_iconst 0 d31_25 (by decide) ?_
        refine am_iret d31_26 rfl (by decide) ?_
        first | exact k1 (Or.inl h1) | exact k1 (Or.inr (Or.inl h6)) | exact k1 (Or.inr (Or.inr ⟨h11, o15⟩)) | exact absurd h18 (by decide) | exact absurd rfl h18 | exact k0 (fun z => z.elim h1 (fun z => z.elim h6 (fun z => h11 z.1))) | exact k0 (fun z => z.elim h1 (fun z => z.elim h6 (fun z => o15 z.2)))
      · refine am_iload_n d31_14 rfl ?_
        refine am_cs1 30 d31_15 ml31_201 rfl (by decide) rfl rfl (Nat.le_of_ble_eq_true rfl) ?_
        refine c_isObject (fun o15 => ?_) (fun o15 => ?_)
        · show am_W 31 18 _ (.int 1 :: _) _ _
          refine am_ifeq 25 d31_18 (by decide) (fun h18 => ?_) (fun h18 => ?_)
          · refine am_iconst 0 d31_25 (by decide) ?_
            refine am_iret d31_26 rfl (by decide) ?_
            first | exact k1 (Or.inl h1) | exact k1 (Or.inr (Or.inl h6)) | exact k1 (Or.inr (Or.inr ⟨h11, o15⟩)) | exact absurd h18 (by decide) | exact absurd rfl h18 | exact k0 (fun z => z.elim h1 (fun z => z.elim h6 (fun z => h11 z.1))) | exact k0 (fun z => z.elim h1 (fun z => z.elim h6 (fun z => o15 z.2)))
          · refine am_iconst 1 d31_21 (by decide) ?_
            refine am_goto 26 d31_22 (by decide) ?_
            refine am_iret d31_26 rfl (by decide) ?_
            first | exact k1 (Or.inl h1) | exact k1 (Or.inr (Or.inl h6)) | exact k1 (Or.inr (Or.inr ⟨h11, o15⟩)) | exact absurd h18 (by decide) | exact absurd rfl h18 | exact k0 (fun z => z.elim h1 (fun z => z.elim h6 (fun z => h11 z.1))) | exact k0 (fun z => z.elim h1 (fun z => z.elim h6 (fun z => o15 z.2)))
        · show am_W 31 18 _ (.int 0 :: _) _ _
          refine am_ifeq 25 d31_18 (by decide) (fun h18 => ?_) (fun h18 => ?_)
          · refine am_iconst 0 d31_25 (by decide) ?_
            refine am_iret d31_26 rfl (by decide) ?_
            first | exact k1 (Or.inl h1) | exact k1 (Or.inr (Or.inl h6)) | exact k1 (Or.inr (Or.inr ⟨h11, o15⟩)) | exact absurd h18 (by decide) | exact absurd rfl h18 | exact k0 (fun z => z.elim h1 (fun z => z.elim h6 (fun z => h11 z.1))) | exact k0 (fun z => z.elim h1 (fun z => z.elim h6 (fun z => o15 z.2)))
          · refine am_iconst 1 d31_21 (by decide) ?_
            refine am_goto 26 d31_22 (by decide) ?_
            refine am_iret d31_26 rfl (by decide) ?_
            first | exact k1 (Or.inl h1) | exact k1 (Or.inr (Or.inl h6)) | exact k1 (Or.inr (Or.inr ⟨h11, o15⟩)) | exact absurd h18 (by decide) | exact absurd rfl h18 | exact k0 (fun z => z.elim h1 (fun z => z.elim h6 (fun z => h11 z.1))) | exact k0 (fun z => z.elim h1 (fun z => z.elim h6 (fun z => o15 z.2)))
theorem c_requireBranch {x : Int32} {nb : Nat} {M : am_M} {Q : am_T} (hn : M.1 1 4 = nI nb) (hb : nb ≤ 6) (hok : ix x nb → Q (.inl none) M) (hbad : ¬ ix x nb → Q (.inr 0) M) : am_W kX_requireBranch 0 (am_in kX_requireBranch [.ref 0, .int x]) [] M Q := by
  show am_W kX_requireBranch 0 _ [] M Q
  refine am_iload_n d15_0 rfl ?_
  refine am_iflt 15 d15_1 (by decide) (fun h1 => ?_) (fun h1 => ?_)
  · refine am_thr (x := 0) d15_15 (by decide) (Nat.le_of_ble_eq_true rfl) ?_
    first | exact hbad (ix_neg (by omega) h1) | exact hbad (ix_nlt (by omega) (by rw [← hn]; exact h12))
  · refine am_iload_n d15_4 rfl ?_
    refine am_aload_n d15_5 rfl ?_
    refine am_getr d15_6 fl15_12 sh_0 rfl ?_
    refine am_geti d15_9 fl15_58 sh_1 rfl ?_
    refine am_iclt 25 d15_12 (by decide) (fun h12 => ?_) (fun h12 => ?_)
    · refine am_vret d15_25 rfl ?_
      exact hok (ix_lt (by omega) h1 (by rw [← hn]; exact h12))
    · refine am_thr (x := 0) d15_15 (by decide) (Nat.le_of_ble_eq_true rfl) ?_
      first | exact hbad (ix_neg (by omega) h1) | exact hbad (ix_nlt (by omega) (by rw [← hn]; exact h12))
theorem c_requireField {x : Int32} {M : am_M} {Q : am_T} (hok : ix x 4 → Q (.inl none) M) (hbad : ¬ ix x 4 → Q (.inr 0) M) : am_W kX_requireField 0 (am_in kX_requireField [.int x]) [] M Q := by
  show am_W kX_requireField 0 _ [] M Q
  refine am_iload_n d17_0 rfl ?_
  refine am_iflt 9 d17_1 (by decide) (fun h1 => ?_) (fun h1 => ?_)
  · refine am_thr (x := 0) d17_9 (by decide) (Nat.le_of_ble_eq_true rfl) ?_
    first | exact hbad (ix_neg (by decide) h1) | exact hbad (ix_nlt (by decide) h6)
  · refine am_iload_n d17_4 rfl ?_
    refine am_iconst (nI 4) d17_5 (by decide) ?_
    refine am_iclt 19 d17_6 (by decide) (fun h6 => ?_) (fun h6 => ?_)
    · refine am_vret d17_19 rfl ?_
      exact hok (ix_lt (by decide) h1 h6)
    · refine am_thr (x := 0) d17_9 (by decide) (Nat.le_of_ble_eq_true rfl) ?_
      first | exact hbad (ix_neg (by decide) h1) | exact hbad (ix_nlt (by decide) h6)
theorem c_requireWhat {x : Int32} {n : Nat} {M : am_M} {Q : am_T} (hn : n < 100) (hok : ix x (n + 1) → Q (.inl none) M) (hbad : ¬ ix x (n + 1) → Q (.inr 1) M) : am_W kX_requireWhat 0 (am_in kX_requireWhat [.int x, .int (nI n)]) [] M Q := by
  show am_W kX_requireWhat 0 _ [] M Q
  refine am_iload_n d18_0 rfl ?_
  refine am_iflt 9 d18_1 (by decide) (fun h1 => ?_) (fun h1 => ?_)
  · refine am_thr (x := 1) d18_9 (by decide) (Nat.le_of_ble_eq_true rfl) ?_
    first | exact hbad (ix_neg (by omega) h1) | exact hbad (ix_nle (by omega) h6)
  · refine am_iload_n d18_4 rfl ?_
    refine am_iload_n d18_5 rfl ?_
    refine am_icle 19 d18_6 (by decide) (fun h6 => ?_) (fun h6 => ?_)
    · refine am_vret d18_19 rfl ?_
      exact hok (ix_le (by omega) h1 h6)
    · refine am_thr (x := 1) d18_9 (by decide) (Nat.le_of_ble_eq_true rfl) ?_
      first | exact hbad (ix_neg (by omega) h1) | exact hbad (ix_nle (by omega) h6)
theorem c_firstReadable {b : Nat} {M : am_M} {Q : am_T} (hb : b < 6) (hQ : Q (.inl (some (.int (if M.1 3 b < M.1 0 7 then M.1 0 7 else M.1 3 b)))) M) : am_W kX_firstReadable 0 (am_in kX_firstReadable [.ref 0, .int (nI b)]) [] M Q := by
  show am_W kX_firstReadable 0 _ [] M Q
  refine am_aload_n d22_0 rfl ?_
  refine am_getr d22_1 fl22_12 sh_0 rfl ?_
  refine am_getr d22_4 fl22_190 sh_1 rfl ?_
  refine am_iload_n d22_7 rfl ?_
  refine am_ialdN b d22_8 sh_3 hb (by decide) ?_
  refine am_aload_n d22_9 rfl ?_
  refine am_geti d22_10 fl22_47 sh_0 rfl ?_
  refine am_max d22_13 (by decide) (by decide) (Nat.le_of_ble_eq_true rfl) ?_
  refine am_iret d22_16 rfl rfl ?_
  exact hQ
/-- when branch b can be read at moment m -/
def bp_rd (M : am_M) (b : Nat) (m : Int32) : Prop := ¬ M.1 4 b = 0 ∧ ¬ m < (if M.1 3 b < M.1 0 7 then M.1 0 7 else M.1 3 b) ∧ m ≤ M.1 0 6
theorem c_requireReadable {b : Nat} {m : Int32} {M : am_M} {Q : am_T} (hb : b < 6) (hok : bp_rd M b m → Q (.inl none) M) (hbad : ¬ bp_rd M b m → Q (.inr 1) M) : am_W kX_requireReadable 0 (am_in kX_requireReadable [.ref 0, .int (nI b), .int m]) [] M Q := by
  show am_W kX_requireReadable 0 _ [] M Q
  refine am_aload_n d19_0 rfl ?_
  refine am_getr d19_1 fl19_12 sh_0 rfl ?_
  refine am_getr d19_4 fl19_81 sh_1 rfl ?_
  refine am_iload_n d19_7 rfl ?_
  refine am_zaldN b d19_8 sh_4 hb (by decide) ?_
  refine am_ifeq 29 d19_9 (by decide) (fun h9 => ?_) (fun h9 => ?_)
  · refine am_thr (x := 1) d19_29 (by decide) (Nat.le_of_ble_eq_true rfl) ?_
    first | exact hbad (fun z => z.1 h9) | exact hbad (fun z => z.2.1 h18) | exact hbad (fun z => h26 z.2.2)
  · refine am_iload_n d19_12 rfl ?_
    refine am_aload_n d19_13 rfl ?_
    refine am_iload_n d19_14 rfl ?_
    refine am_cv1 22 d19_15 ml19_210 rfl (by decide) sh_0 rfl rfl (Nat.le_of_ble_eq_true rfl) ?_
    refine c_firstReadable hb ?_
    show am_W 19 18 _ (.int _ :: _) _ _
    refine am_iclt 29 d19_18 (by decide) (fun h18 => ?_) (fun h18 => ?_)
    · refine am_thr (x := 1) d19_29 (by decide) (Nat.le_of_ble_eq_true rfl) ?_
      first | exact hbad (fun z => z.1 h9) | exact hbad (fun z => z.2.1 h18) | exact hbad (fun z => h26 z.2.2)
    · refine am_iload_n d19_21 rfl ?_
      refine am_aload_n d19_22 rfl ?_
      refine am_geti d19_23 fl19_43 sh_0 rfl ?_
      refine am_icle 39 d19_26 (by decide) (fun h26 => ?_) (fun h26 => ?_)
      · refine am_vret d19_39 rfl ?_
        exact hok ⟨h9, h18, h26⟩
      · refine am_thr (x := 1) d19_29 (by decide) (Nat.le_of_ble_eq_true rfl) ?_
        first | exact hbad (fun z => z.1 h9) | exact hbad (fun z => z.2.1 h18) | exact hbad (fun z => h26 z.2.2)
theorem c_requireOpen {b : Nat} {M : am_M} {Q : am_T} (hb : b < 6) (hok : ¬ M.1 4 b = 0 → Q (.inl none) M) (hbad : M.1 4 b = 0 → Q (.inr 2) M) : am_W kX_requireOpen 0 (am_in kX_requireOpen [.ref 0, .int (nI b)]) [] M Q := by
  show am_W kX_requireOpen 0 _ [] M Q
  refine am_aload_n d20_0 rfl ?_
  refine am_getr d20_1 fl20_12 sh_0 rfl ?_
  refine am_getr d20_4 fl20_81 sh_1 rfl ?_
  refine am_iload_n d20_7 rfl ?_
  refine am_zaldN b d20_8 sh_4 hb (by decide) ?_
  refine am_ifne 22 d20_9 (by decide) (fun h9 => ?_) (fun h9 => ?_)
  · refine am_vret d20_22 rfl ?_
    exact hok h9
  · refine am_thr (x := 2) d20_12 (by decide) (Nat.le_of_ble_eq_true rfl) ?_
    exact hbad h9
theorem c_requireRoomFor {n nw : Nat} {M : am_M} {Q : am_T} (hn : M.1 6 6 = nI nw) (hw : nw ≤ 120) (h1 : n ≤ 48) (hok : nw + n ≤ 120 → Q (.inl none) M) (hbad : 120 < nw + n → Q (.inr 3) M) : am_W kX_requireRoomFor 0 (am_in kX_requireRoomFor [.ref 0, .int (nI n)]) [] M Q := by
  show am_W kX_requireRoomFor 0 _ [] M Q
  refine am_aload_n d21_0 rfl ?_
  refine am_getr d21_1 fl21_19 sh_0 rfl ?_
  refine am_geti d21_4 fl21_186 sh_6 rfl ?_
  refine am_iload_n d21_7 rfl ?_
  refine am_iadd d21_8 ?_
  rw [hn, nI_add]
  refine am_bipush (nI 120) d21_9 (by decide) ?_
  refine am_icle 24 d21_11 (by decide) (fun h11 => ?_) (fun h11 => ?_)
  · refine am_vret d21_24 rfl ?_
    exact hok ((nI_leI (by omega) (by decide)).mp h11)
  · refine am_thr (x := 3) d21_14 (by decide) (Nat.le_of_ble_eq_true rfl) ?_
    exact hbad (Nat.lt_of_not_le (fun z => h11 (nI_le z (by decide))))
/-- the row that is seen in cell c on branch b at moment m -/
def sp_row (wb wm wc : Nat → Int32) (pn : Nat → Nat) (fk : Nat → Int32) (nw b : Nat) (m : Int32) (c : Nat) : Option Nat := sp_last (sp_in wb wm wc (mt_f pn fk b b m) c) nw
/-- the view at v shows the rows r -/
def vw (M : am_M) (v : Nat) (wk wv wm : Nat → Int32) (r : Nat → Option Nat) : Prop := ∀ c, c < 48 → M.1 (v + 1) c = sp_get wk 0 (r c) ∧ M.1 (v + 2) c = sp_get wv 0 (r c) ∧ M.1 (v + 3) c = sp_get wm (-1) (r c)
theorem c_look {v b nb nw : Nat} {m : Int32} {pn : Nat → Nat} {M : am_M} {Q : am_T} (hv : bv v) (hB : bp_P (M.1 2) (M.1 3) pn nb) (hR : bp_R (M.1 7) (M.1 9) nb nw) (hn : M.1 6 6 = nI nw) (hb : b < nb) (hm : 0 ≤ m) (hQ : ∀ M', fr [5, v + 1, v + 2, v + 3] M M' → vw M' v (M.1 10) (M.1 11) (M.1 8) (sp_row (M.1 7) (M.1 8) (M.1 9) pn (M.1 3) nw b m) → Q (.inl none) M') : am_W kX_look 0 (am_in kX_look [.ref 0, .ref v, .int (nI b), .int m]) [] M Q := by
  show am_W kX_look 0 _ [] M Q
  refine am_aload_n d23_0 rfl ?_
  refine am_getr d23_1 fl23_12 sh_0 rfl ?_
  refine am_iload_n d23_4 rfl ?_
  refine am_iload_n d23_5 rfl ?_
  refine am_cv2 79 d23_6 ml23_227 rfl (by decide) sh_1 rfl rfl rfl (Nat.le_of_ble_eq_true rfl) ?_
  refine c_limitSight hB hb hm (fun M1 f1 l1 => ?_)
  show am_W 23 9 _ _ _ _
  refine am_aload_n d23_9 rfl ?_
  refine am_getr d23_10 fl23_19 sh_0 rfl ?_
  refine am_aload_n d23_13 rfl ?_
  refine am_getr d23_14 fl23_12 sh_0 rfl ?_
  refine am_getr d23_17 fl23_230 sh_1 rfl ?_
  refine am_aload_n d23_20 rfl ?_
  refine am_cv2 107 d23_21 ml23_233 rfl (by decide) sh_6 rfl rfl rfl (Nat.le_of_ble_eq_true rfl) ?_
  have g : ∀ p, p ≠ 5 → M1.1 p = M.1 p := fun p hp => f1.eq p (by simpa using hp)
  refine c_show hv (nb := nb) (nw := nw) (by rw [g 7 (by decide), g 9 (by decide)]; exact hR) hB.1 (by rw [g 6 (by decide)]; exact hn) (fun M2 f2 l2 => ?_)
  show am_W 23 24 _ _ _ _
  refine am_vret d23_24 rfl ?_
  refine hQ M2 ((f1.wk (by simp)).tr (f2.wk (fun p hp => List.mem_cons_of_mem _ hp))) (fun c hc => ?_)
  have h3 := l2 c hc
  rw [g 10 (by decide), g 11 (by decide), g 8 (by decide), g 7 (by decide), g 9 (by decide)] at h3
  have h4 : sp_last (sp_in (M.1 7) (M.1 8) (M.1 9) (M1.1 5) c) nw = sp_row (M.1 7) (M.1 8) (M.1 9) pn (M.1 3) nw b m c := by
    refine sp_last_congr (fun i hi => ?_)
    obtain ⟨⟨bi, hbi, hbe⟩, -⟩ := hR.2 i hi
    have h6 := hB.1
    unfold sp_in
    rw [hbe, nI_clamp (by omega), l1 bi (by omega)]
  rw [h4] at h3
  exact h3
