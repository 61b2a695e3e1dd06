/-! append, markGiven, isCarried, countCarried, countConflicts, carryTo -/
theorem c_append {ck nw : Nat} {b c kd vl : Int32} {M : am_M} {Q : am_T} (hc : M.1 0 6 = nI ck) (hn : M.1 6 6 = nI nw) (h120 : nw < 120) (hQ : Q (.inl none) (sp_add (am_set M 0 6 (nI (ck + 1))) nw b (nI (ck + 1)) c kd vl)) : am_W kX_append 0 (am_in kX_append [.ref 0, .int b, .int c, .int kd, .int vl]) [] M Q := by
  show am_W kX_append 0 _ [] M Q
  refine am_aload_n d24_0 rfl ?_
  refine am_dup d24_1 rfl ?_
  refine am_geti d24_2 fl24_43 sh_0 rfl ?_
  rw [hc]
  refine am_iconst 1 d24_5 (by decide) ?_
  refine am_iadd d24_6 ?_
  rw [nI_1]
  refine am_put d24_7 fl24_43 sh_0 rfl rfl rfl rfl ?_
  refine am_aload_n d24_10 rfl ?_
  refine am_getr d24_11 fl24_19 sh_0 rfl ?_
  refine am_iload_n d24_14 rfl ?_
  refine am_aload_n d24_15 rfl ?_
  refine am_geti d24_16 fl24_43 sh_0 rfl ?_
  rw [am_set_self, pk_us]
  refine am_iload_n d24_19 rfl ?_
  refine am_iload_n d24_20 rfl ?_
  refine am_iload d24_21 rfl ?_
  refine am_cv5 105 d24_23 ml24_237 rfl (by decide) sh_6 rfl rfl rfl rfl rfl rfl (Nat.le_of_ble_eq_true rfl) ?_
  refine c_Wadd (nw := nw) (by rw [am_set_ne (by decide)]; exact hn) h120 ?_
  show am_W 24 26 _ _ _ _
  refine am_vret d24_26 rfl ?_
  exact hQ
def bp_first (M : am_M) (b : Nat) : Int32 := if M.1 3 b < M.1 0 7 then M.1 0 7 else M.1 3 b
/-- row j is marked for branch b -/
def mk_b (M : am_M) (pn : Nat → Nat) (nw b j : Nat) : Bool := !decide (M.1 4 b = 0) && (decide (M.1 8 j = sp_get (M.1 8) (-1) (sp_row (M.1 7) (M.1 8) (M.1 9) pn (M.1 3) nw b (bp_first M b) (M.1 9 j).toNatClampNeg)) || (decide (M.1 7 j = nI b) && decide (bp_first M b < M.1 8 j)))
theorem c_markGiven {b nb nw : Nat} {pn : Nat → Nat} {M : am_M} {Q : am_T} (hB : bp_P (M.1 2) (M.1 3) pn nb) (hR : bp_R (M.1 7) (M.1 9) nb nw) (hn : M.1 6 6 = nI nw) (hb : b < nb) (hf : 0 ≤ bp_first M b) (hQ : ∀ M', fr [5, 12, 14, 15, 16] M M' → (∀ j, j < nw → M'.1 12 j = if mk_b M pn nw b j = true then 1 else M.1 12 j) → Q (.inl none) M') : am_W kX_markGiven 0 (am_in kX_markGiven [.ref 0, .int (nI b)]) [] M Q := by
  have hB6 := hB.1
  have fin : ∀ M1 : am_M, fr [5, 13 + 1, 13 + 2, 13 + 3] M M1 → vw M1 13 (M.1 10) (M.1 11) (M.1 8) (sp_row (M.1 7) (M.1 8) (M.1 9) pn (M.1 3) nw b (bp_first M b)) → ∀ M2 : am_M, fr [12] M1 M2 → (∀ j, j < nw → M2.1 12 j = if (fun j => decide (M1.1 8 j = M1.1 (13 + 3) (M1.1 9 j).toNatClampNeg)) j = true then 1 else M1.1 12 j) → ∀ M3 : am_M, fr [12] M2 M3 → (∀ j, j < nw → M3.1 12 j = if (fun j => decide (M2.1 7 j = nI b) && decide (bp_first M b < M2.1 8 j)) j = true then 1 else M2.1 12 j) → ¬ M.1 4 b = 0 → Q (.inl none) M3 := by
    intro M1 f1 v1 M2 f2 m2 M3 f3 m3 ho
    refine hQ M3 (((f1.wk (by simp)).tr (f2.wk (by simp))).tr (f3.wk (by simp))) (fun j hj => ?_)
    obtain ⟨c, hc, ec⟩ := (hR.2 j hj).2
    have e1 := (v1 c hc).2.2
    have q3 := m3 j hj
    have hcl : (M.1 9 j).toNatClampNeg = c := by rw [ec, nI_clamp (by omega)]
    simp only [m2 j hj, f2.eq 7 (by decide), f2.eq 8 (by decide), f1.eq 7 (by decide), f1.eq 8 (by decide), f1.eq 9 (by decide), f1.eq 12 (by decide), hcl] at q3
    rw [e1] at q3
    rw [q3]
    simp only [mk_b, hcl, ho, decide_false, Bool.not_false, Bool.true_and, Bool.or_eq_true]
    by_cases p1 : (decide (M.1 7 j = nI b) && decide (bp_first M b < M.1 8 j)) = true
    · rw [if_pos p1, if_pos (Or.inr p1)]
    · rw [if_neg p1]
      by_cases p2 : decide (M.1 8 j = sp_get (M.1 8) (-1) (sp_row (M.1 7) (M.1 8) (M.1 9) pn (M.1 3) nw b (bp_first M b) c)) = true
      · rw [if_pos p2, if_pos (Or.inl p2)]
      · rw [if_neg p2, if_neg (by rintro (h | h); exact p2 h; exact p1 h)]
  show am_W kX_markGiven 0 _ [] M Q
  refine am_aload_n d25_0 rfl ?_
  refine am_getr d25_1 fl25_12 sh_0 rfl ?_
  refine am_getr d25_4 fl25_81 sh_1 rfl ?_
  refine am_iload_n d25_7 rfl ?_
  refine am_zaldN b d25_8 sh_4 (by omega) (by decide) ?_
  refine am_ifne 13 d25_9 (by decide) (fun h9 => ?_) (fun h9 => ?_)
  · refine am_aload_n d25_13 rfl ?_
    refine am_iload_n d25_14 rfl ?_
    refine am_cv1 22 d25_15 ml25_210 rfl (by decide) sh_0 rfl rfl (Nat.le_of_ble_eq_true rfl) ?_
    refine c_firstReadable (by omega) ?_
    show am_W 25 18 _ (.int _ :: _) _ _
    refine am_istore_n d25_18 (Nat.le_of_ble_eq_true rfl) rfl ?_
    refine am_aload_n d25_19 rfl ?_
    refine am_aload_n d25_20 rfl ?_
    refine am_getr d25_21 fl25_26 sh_0 rfl ?_
    refine am_iload_n d25_24 rfl ?_
    refine am_iload_n d25_25 rfl ?_
    refine am_cv3 23 d25_26 ml25_113 rfl (by decide) sh_0 rfl rfl rfl rfl (Nat.le_of_ble_eq_true rfl) ?_
    refine c_look (v := 13) (Or.inl rfl) hB hR hn hb hf (fun M1 f1 v1 => ?_)
    show am_W 25 29 _ _ _ _
    refine am_aload_n d25_29 rfl ?_
    refine am_getr d25_30 fl25_19 sh_0 rfl ?_
    refine am_aload_n d25_33 rfl ?_
    refine am_getr d25_34 fl25_26 sh_0 rfl ?_
    refine am_cv1 109 d25_37 ml25_240 rfl (by decide) sh_6 rfl rfl (Nat.le_of_ble_eq_true rfl) ?_
    refine c_markShown (v := 13) (nb := nb) (nw := nw) (Or.inl rfl) (by rw [f1.eq 7 (by decide), f1.eq 9 (by decide)]; exact hR) (by rw [f1.eq 6 (by decide)]; exact hn) (fun M2 f2 m2 => ?_)
    show am_W 25 40 _ _ _ _
    refine am_aload_n d25_40 rfl ?_
    refine am_getr d25_41 fl25_19 sh_0 rfl ?_
    refine am_iload_n d25_44 rfl ?_
    refine am_iload_n d25_45 rfl ?_
    refine am_cv2 110 d25_46 ml25_244 rfl (by decide) sh_6 rfl rfl rfl (Nat.le_of_ble_eq_true rfl) ?_
    refine c_markOwnAfter (nw := nw) hR.1 (by rw [f2.eq 6 (by decide), f1.eq 6 (by decide)]; exact hn) (fun M3 f3 m3 => ?_)
    show am_W 25 49 _ _ _ _
    refine am_vret d25_49 rfl ?_
    first | exact hQ M fr.rf (fun j hj => by simp [mk_b, *]) | exact fin M1 f1 v1 M2 f2 m2 M3 f3 m3 h9
  · refine am_vret d25_12 rfl ?_
    first | exact hQ M fr.rf (fun j hj => by simp [mk_b, *]) | exact fin M1 f1 v1 M2 f2 m2 M3 f3 m3 h9
/-- views v and w hold the same in cell c -/
def sm (M : am_M) (v w c : Nat) : Bool := decide (M.1 (v + 1) c = M.1 (w + 1) c) && decide (M.1 (v + 2) c = M.1 (w + 2) c)
def ca (M : am_M) (c : Nat) : Bool := !sm M 13 21 c && !sm M 13 17 c
theorem c_same {v w c : Nat} {M : am_M} {Q : am_T} (hv : bv v) (hw : bv w) (hc : c < 48) (h1 : sm M v w c = true → Q (.inl (some (.int 1))) M) (h0 : ¬ sm M v w c = true → Q (.inl (some (.int 0))) M) : am_W kV_holdsSame 0 (am_in kV_holdsSame [.ref v, .ref w, .int (nI c)]) [] M Q :=
  c_holdsSame hv hw hc (fun h => h1 (by simp [sm, h])) (fun h => h0 (fun z => h (by simpa [sm] using z)))
theorem c_isCarried {c : Nat} {M : am_M} {Q : am_T} (hc : c < 48) (h1 : ca M c = true → Q (.inl (some (.int 1))) M) (h0 : ¬ ca M c = true → Q (.inl (some (.int 0))) M) : am_W kX_isCarried 0 (am_in kX_isCarried [.ref 0, .int (nI c)]) [] M Q := by
  show am_W kX_isCarried 0 _ [] M Q
  refine am_aload_n d26_0 rfl ?_
  refine am_getr d26_1 fl26_26 sh_0 rfl ?_
  refine am_aload_n d26_4 rfl ?_
  refine am_getr d26_5 fl26_33 sh_0 rfl ?_
  refine am_iload_n d26_8 rfl ?_
  refine am_cv2 96 d26_9 ml26_136 rfl (by decide) sh_13 rfl rfl rfl (Nat.le_of_ble_eq_true rfl) ?_
  refine c_same (v := 13) (w := 21) (Or.inl rfl) (Or.inr (Or.inr rfl)) hc (fun g1 => ?_) (fun g1 => ?_)
  · show am_W 26 12 _ (.int 1 :: _) _ _
    refine am_ifne 34 d26_12 (by decide) (fun _ => ?_) (fun h => absurd h (by decide))
    refine am_iconst 0 d26_34 (by decide) ?_
    refine am_iret d26_35 rfl (by decide) ?_
    first | exact h1 (by simp [ca, *]) | exact h0 (by simp [ca, *])
  · show am_W 26 12 _ (.int 0 :: _) _ _
    refine am_ifne 34 d26_12 (by decide) (fun h => absurd h (by decide)) (fun _ => ?_)
    refine am_aload_n d26_15 rfl ?_
    refine am_getr d26_16 fl26_26 sh_0 rfl ?_
    refine am_aload_n d26_19 rfl ?_
    refine am_getr d26_20 fl26_30 sh_0 rfl ?_
    refine am_iload_n d26_23 rfl ?_
    refine am_cv2 96 d26_24 ml26_136 rfl (by decide) sh_13 rfl rfl rfl (Nat.le_of_ble_eq_true rfl) ?_
    refine c_same (v := 13) (w := 17) (Or.inl rfl) (Or.inr (Or.inl rfl)) hc (fun g2 => ?_) (fun g2 => ?_)
    · show am_W 26 27 _ (.int 1 :: _) _ _
      refine am_ifne 34 d26_27 (by decide) (fun _ => ?_) (fun h => absurd h (by decide))
      refine am_iconst 0 d26_34 (by decide) ?_
      refine am_iret d26_35 rfl (by decide) ?_
      first | exact h1 (by simp [ca, *]) | exact h0 (by simp [ca, *])
    · show am_W 26 27 _ (.int 0 :: _) _ _
      refine am_ifne 34 d26_27 (by decide) (fun h => absurd h (by decide)) (fun _ => ?_)
      refine am_iconst 1 d26_30 (by decide) ?_
      refine am_goto 35 d26_31 (by decide) ?_
      refine am_iret d26_35 rfl (by decide) ?_
      first | exact h1 (by simp [ca, *]) | exact h0 (by simp [ca, *])
theorem c_countCarried {M : am_M} {Q : am_T} (hQ : Q (.inl (some (.int (nI (sp_cnt (ca M) 48))))) M) : am_W kX_countCarried 0 (am_in kX_countCarried [.ref 0]) [] M Q := by
  have loop : ∀ i, i ≤ 48 → am_W kX_countCarried 4 [.ref 0, .int (nI (sp_cnt (ca M) i)), .int (nI i)] [] M Q := by
    refine am_loop 48 (fun i hi ih => ?_)
    refine am_iload_n d27_4 rfl ?_
    refine am_bipush (nI 48) d27_5 (by decide) ?_
    refine am_icgeN 27 i 48 d27_7 (by decide) rfl rfl (by omega) (by decide) (fun h7 => ?_) (fun h7 => ?_)
    · refine am_iload_n d27_27 rfl ?_
      refine am_iret d27_28 rfl rfl ?_
      obtain rfl : i = 48 := by omega
      exact hQ
    · refine am_aload_n d27_10 rfl ?_
      refine am_iload_n d27_11 rfl ?_
      refine am_cv1 26 d27_12 ml27_247 rfl (by decide) sh_0 rfl rfl (Nat.le_of_ble_eq_true rfl) ?_
      refine c_isCarried (c := i) (by omega) (fun hin => ?_) (fun hin => ?_)
      · show am_W 27 15 _ (.int 1 :: _) _ _
        refine am_ifeq 21 d27_15 (by decide) (fun h => absurd h (by decide)) (fun _ => ?_)
        refine am_incE (sp_cnt (ca M) i) (sp_cnt (ca M) (i + 1)) (sp_cnt_t (by simp [*])) d27_18 rfl rfl ?_
        refine am_incN i d27_21 rfl rfl ?_
        refine am_goto 4 d27_24 (by decide) ?_
        first | exact ih h7 | (have hz := ih h7; rw [← sp_cnt_f (by simp [*])] at hz; exact hz)
      · show am_W 27 15 _ (.int 0 :: _) _ _
        refine am_ifeq 21 d27_15 (by decide) (fun _ => ?_) (fun h => absurd h (by decide))
        refine am_incN i d27_21 rfl rfl ?_
        refine am_goto 4 d27_24 (by decide) ?_
        first | exact ih h7 | (have hz := ih h7; rw [← sp_cnt_f (by simp [*])] at hz; exact hz)
  show am_W kX_countCarried 0 _ [] M Q
  refine am_iconst (nI 0) d27_0 (by decide) ?_
  refine am_istore_n d27_1 (Nat.le_of_ble_eq_true rfl) rfl ?_
  refine am_iconst (nI 0) d27_2 (by decide) ?_
  refine am_istore_n d27_3 (Nat.le_of_ble_eq_true rfl) rfl ?_
  exact loop 0 (by decide)
theorem c_countConflicts {M : am_M} {Q : am_T} (hQ : Q (.inl (some (.int (nI (sp_cnt (fun c => ca M c && !sm M 17 21 c) 48))))) M) : am_W kX_countConflicts 0 (am_in kX_countConflicts [.ref 0]) [] M Q := by
  have loop : ∀ i, i ≤ 48 → am_W kX_countConflicts 4 [.ref 0, .int (nI (sp_cnt (fun c => ca M c && !sm M 17 21 c) i)), .int (nI i)] [] M Q := by
    refine am_loop 48 (fun i hi ih => ?_)
    refine am_iload_n d28_4 rfl ?_
    refine am_bipush (nI 48) d28_5 (by decide) ?_
    refine am_icgeN 42 i 48 d28_7 (by decide) rfl rfl (by omega) (by decide) (fun h7 => ?_) (fun h7 => ?_)
    · refine am_iload_n d28_42 rfl ?_
      refine am_iret d28_43 rfl rfl ?_
      obtain rfl : i = 48 := by omega
      exact hQ
    · refine am_aload_n d28_10 rfl ?_
      refine am_iload_n d28_11 rfl ?_
      refine am_cv1 26 d28_12 ml28_247 rfl (by decide) sh_0 rfl rfl (Nat.le_of_ble_eq_true rfl) ?_
      refine c_isCarried (c := i) (by omega) (fun hin => ?_) (fun hin => ?_)
      · show am_W 28 15 _ (.int 1 :: _) _ _
        refine am_ifeq 36 d28_15 (by decide) (fun h => absurd h (by decide)) (fun _ => ?_)
        refine am_aload_n d28_18 rfl ?_
        refine am_getr d28_19 fl28_30 sh_0 rfl ?_
        refine am_aload_n d28_22 rfl ?_
        refine am_getr d28_23 fl28_33 sh_0 rfl ?_
        refine am_iload_n d28_26 rfl ?_
        refine am_cv2 96 d28_27 ml28_136 rfl (by decide) sh_17 rfl rfl rfl (Nat.le_of_ble_eq_true rfl) ?_
        refine c_same (v := 17) (w := 21) (Or.inr (Or.inl rfl)) (Or.inr (Or.inr rfl)) (by omega) (fun g3 => ?_) (fun g3 => ?_)
        · show am_W 28 30 _ (.int 1 :: _) _ _
          refine am_ifne 36 d28_30 (by decide) (fun _ => ?_) (fun h => absurd h (by decide))
          refine am_incN i d28_36 rfl rfl ?_
          refine am_goto 4 d28_39 (by decide) ?_
          first | exact ih h7 | (have hz := ih h7; rw [← sp_cnt_f (by simp [*])] at hz; exact hz)
        · show am_W 28 30 _ (.int 0 :: _) _ _
          refine am_ifne 36 d28_30 (by decide) (fun h => absurd h (by decide)) (fun _ => ?_)
          refine am_incE (sp_cnt (fun c => ca M c && !sm M 17 21 c) i) (sp_cnt (fun c => ca M c && !sm M 17 21 c) (i + 1)) (sp_cnt_t (by simp [*])) d28_33 rfl rfl ?_
          refine am_incN i d28_36 rfl rfl ?_
          refine am_goto 4 d28_39 (by decide) ?_
          first | exact ih h7 | (have hz := ih h7; rw [← sp_cnt_f (by simp [*])] at hz; exact hz)
      · show am_W 28 15 _ (.int 0 :: _) _ _
        refine am_ifeq 36 d28_15 (by decide) (fun _ => ?_) (fun h => absurd h (by decide))
        refine am_incN i d28_36 rfl rfl ?_
        refine am_goto 4 d28_39 (by decide) ?_
        first | exact ih h7 | (have hz := ih h7; rw [← sp_cnt_f (by simp [*])] at hz; exact hz)
  show am_W kX_countConflicts 0 _ [] M Q
  refine am_iconst (nI 0) d28_0 (by decide) ?_
  refine am_istore_n d28_1 (Nat.le_of_ble_eq_true rfl) rfl ?_
  refine am_iconst (nI 0) d28_2 (by decide) ?_
  refine am_istore_n d28_3 (Nat.le_of_ble_eq_true rfl) rfl ?_
  exact loop 0 (by decide)
/-- what a join has put into a column behind c cells -/
def jn (car : Nat → Bool) (f : Nat → Int32) (a : Nat → Int32) (nw : Nat) : Nat → (Nat → Int32)
  | 0 => a
  | c + 1 => if car c = true then upd (jn car f a nw c) (nw + sp_cnt car c) (f c) else jn car f a nw c
theorem jn_t {car : Nat → Bool} {f a : Nat → Int32} {nw c : Nat} (h : car c = true) : jn car f a nw (c + 1) = upd (jn car f a nw c) (nw + sp_cnt car c) (f c) := by simp [jn, h]
theorem jn_f {car : Nat → Bool} {f a : Nat → Int32} {nw c : Nat} (h : ¬ car c = true) : jn car f a nw (c + 1) = jn car f a nw c := by simp [jn, h]
theorem jn_congr {car car' : Nat → Bool} {f f' a : Nat → Int32} {nw n : Nat} (hc : ∀ c, c < n → car c = car' c) (hf : ∀ c, c < n → car c = true → f c = f' c) : jn car f a nw n = jn car' f' a nw n := by
  induction n with
  | zero => rfl
  | succ n ih =>
    have ih := ih (fun c h => hc c (by omega)) (fun c h => hf c (by omega))
    have hk := sp_cnt_congr (f := car) (g := car') (n := n) (fun c h => hc c (by omega))
    by_cases h : car n = true
    · rw [jn_t h, jn_t (by rw [← hc n (by omega)]; exact h), ih, hk, hf n (by omega) h]
    · rw [jn_f h, jn_f (by rw [← hc n (by omega)]; exact h), ih]
theorem sp_cnt_mono (f : Nat → Bool) : ∀ a b, a ≤ b → sp_cnt f a ≤ sp_cnt f b := by
  intro a b h
  induction b with
  | zero => obtain rfl : a = 0 := by omega
            exact Nat.le_refl _
  | succ b ih =>
    by_cases hb : a = b + 1
    · subst hb; exact Nat.le_refl _
    · refine Nat.le_trans (ih (by omega)) ?_
      simp only [sp_cnt]
      split <;> omega
/-- the memory M' is M with what a join has carried to branch b behind c cells -/
def jm (M M' : am_M) (car : Nat → Bool) (b nw ck c : Nat) : Prop := fr [0, 6, 7, 8, 9, 10, 11] M M' ∧ M'.1 0 7 = M.1 0 7 ∧ M'.1 6 6 = nI (nw + sp_cnt car c) ∧ M'.1 0 6 = nI (ck + sp_cnt car c) ∧ M'.1 7 = jn car (fun _ => nI b) (M.1 7) nw c ∧ M'.1 8 = jn car (fun i => nI (ck + sp_cnt car i + 1)) (M.1 8) nw c ∧ M'.1 9 = jn car nI (M.1 9) nw c ∧ M'.1 10 = jn car (M.1 14) (M.1 10) nw c ∧ M'.1 11 = jn car (M.1 15) (M.1 11) nw c
theorem jm_t {M M' : am_M} {car : Nat → Bool} {b nw ck c : Nat} (h : jm M M' car b nw ck c) (hc : car c = true) : jm M (sp_add (am_set M' 0 6 (nI (ck + sp_cnt car c + 1))) (nw + sp_cnt car c) (nI b) (nI (ck + sp_cnt car c + 1)) (nI c) (M.1 14 c) (M.1 15 c)) car b nw ck (c + 1) := by
  obtain ⟨a1, a2, a3, a4, a5, a6, a7, a8, a9⟩ := h
  unfold sp_add
  refine ⟨((((((a1.set (by simp)).set (by simp)).set (by simp)).set (by simp)).set (by simp)).set (by simp)).set (by simp), a2, ?_, ?_, ?_, ?_, ?_, ?_, ?_⟩
  · rw [am_set_self, pk_us, ← sp_cnt_t hc]; rfl
  · rw [← sp_cnt_t hc]; rfl
  · rw [jn_t hc, ← a5]; rfl
  · rw [jn_t hc, ← a6]; rfl
  · rw [jn_t hc, ← a7]; rfl
  · rw [jn_t hc, ← a8]; rfl
  · rw [jn_t hc, ← a9]; rfl
theorem jm_f {M M' : am_M} {car : Nat → Bool} {b nw ck c : Nat} (h : jm M M' car b nw ck c) (hc : ¬ car c = true) : jm M M' car b nw ck (c + 1) := by
  obtain ⟨a1, a2, a3, a4, a5, a6, a7, a8, a9⟩ := h
  unfold jm
  rw [jn_f hc, jn_f hc, jn_f hc, jn_f hc, jn_f hc, ← sp_cnt_f hc]
  exact ⟨a1, a2, a3, a4, a5, a6, a7, a8, a9⟩
theorem c_carryTo {b nw ck : Nat} {M : am_M} {Q : am_T} (hc : M.1 0 6 = nI ck) (hn : M.1 6 6 = nI nw) (h120 : nw + sp_cnt (ca M) 48 ≤ 120) (hQ : ∀ M', jm M M' (ca M) b nw ck 48 → Q (.inl none) M') : am_W kX_carryTo 0 (am_in kX_carryTo [.ref 0, .int (nI b)]) [] M Q := by
  have loop : ∀ i, i ≤ 48 → ∀ M1 : am_M, jm M M1 (ca M) b nw ck i → am_W kX_carryTo 2 [.ref 0, .int (nI b), .int (nI i)] [] M1 Q := by
    refine am_loop 48 (fun i hi ih => ?_)
    intro M1 J
    have e14 : M1.1 14 = M.1 14 := J.1.eq 14 (by decide)
    have e15 : M1.1 15 = M.1 15 := J.1.eq 15 (by decide)
    have eca : ca M1 i = ca M i := by
      unfold ca
      rw [show sm M1 13 21 i = sm M 13 21 i by unfold sm; rw [J.1.eq 14 (by decide), J.1.eq 15 (by decide), J.1.eq 22 (by decide), J.1.eq 23 (by decide)], show sm M1 13 17 i = sm M 13 17 i by unfold sm; rw [J.1.eq 14 (by decide), J.1.eq 15 (by decide), J.1.eq 18 (by decide), J.1.eq 19 (by decide)]]
    refine am_iload_n d29_2 rfl ?_
    refine am_bipush (nI 48) d29_3 (by decide) ?_
    refine am_icgeN 46 i 48 d29_5 (by decide) rfl rfl (by omega) (by decide) (fun h5 => ?_) (fun h5 => ?_)
    · refine am_vret d29_46 rfl ?_
      obtain rfl : i = 48 := by omega
      exact hQ M1 J
    · refine am_aload_n d29_8 rfl ?_
      refine am_iload_n d29_9 rfl ?_
      refine am_cv1 26 d29_10 ml29_247 rfl (by decide) sh_0 rfl rfl (Nat.le_of_ble_eq_true rfl) ?_
      refine c_isCarried (c := i) (by omega) (fun hin => ?_) (fun hin => ?_)
      · show am_W 29 13 _ (.int 1 :: _) _ _
        rw [eca] at hin
        refine am_ifeq 40 d29_13 (by decide) (fun h => absurd h (by decide)) (fun _ => ?_)
        refine am_aload_n d29_16 rfl ?_
        refine am_iload_n d29_17 rfl ?_
        refine am_iload_n d29_18 rfl ?_
        refine am_aload_n d29_19 rfl ?_
        refine am_getr d29_20 fl29_26 sh_0 rfl ?_
        refine am_getr d29_23 fl29_117 sh_13 rfl ?_
        refine am_iload_n d29_26 rfl ?_
        refine am_ialdN i d29_27 sh_14 (by omega) (by decide) ?_
        refine am_aload_n d29_28 rfl ?_
        refine am_getr d29_29 fl29_26 sh_0 rfl ?_
        refine am_getr d29_32 fl29_121 sh_13 rfl ?_
        refine am_iload_n d29_35 rfl ?_
        refine am_ialdN i d29_36 sh_15 (by omega) (by decide) ?_
        refine am_cv4 24 d29_37 ml29_106 rfl (by decide) sh_0 rfl rfl rfl rfl rfl (Nat.le_of_ble_eq_true rfl) ?_
        rw [e14, e15]
        refine c_append (ck := ck + sp_cnt (ca M) i) (nw := nw + sp_cnt (ca M) i) J.2.2.2.1 J.2.2.1 (by have h1 := sp_cnt_t hin; have h2 := sp_cnt_mono (ca M) (i + 1) 48 (by omega); omega) ?_
        show am_W 29 40 _ _ _ _
        refine am_incN i d29_40 rfl rfl ?_
        refine am_goto 2 d29_43 (by decide) ?_
        exact ih h5 _ (jm_t J hin)
      · show am_W 29 13 _ (.int 0 :: _) _ _
        rw [eca] at hin
        refine am_ifeq 40 d29_13 (by decide) (fun _ => ?_) (fun h => absurd h (by decide))
        refine am_incN i d29_40 rfl rfl ?_
        refine am_goto 2 d29_43 (by decide) ?_
        exact ih h5 _ (jm_f J hin)
  show am_W kX_carryTo 0 _ [] M Q
  refine am_iconst (nI 0) d29_0 (by decide) ?_
  refine am_istore_n d29_1 (Nat.le_of_ble_eq_true rfl) rfl ?_
  exact loop 0 (by decide) M ⟨fr.rf, rfl, hn, hc, rfl, rfl, rfl, rfl, rfl⟩
