/-! allLedTo; Path: the smaller methods -/
theorem c_allLedTo {v : Nat} {x : Int32} {M : am_M} {Q : am_T} (hv : bv v) (hQ : Q (.inl (some (.int (sp_clo (sp_fld (fun t f => sp_refd (M.1 (v + 1)) (M.1 (v + 2)) t f) 4) 12 x 0)))) M) : am_W kV_allLedTo 0 (am_in kV_allLedTo [.ref v, .int x]) [] M Q := by
  have inner : ∀ (x s0 old : Int32) (i f : Nat), f ≤ 4 → am_W kV_allLedTo 46 [.ref v, .int x, .int (sp_fld (fun t f => sp_refd (M.1 (v + 1)) (M.1 (v + 2)) t f) 4 s0), .int old, .int (nI i), .int (nI 4)] [] M Q → am_W kV_allLedTo 24 [.ref v, .int x, .int (sp_fld (fun t f => sp_refd (M.1 (v + 1)) (M.1 (v + 2)) t f) f s0), .int old, .int (nI i), .int (nI f)] [] M Q := by
    intro x s0 old i f hf hk
    revert f
    refine am_loop 4 (fun f hf ihf => ?_)
    refine am_iload d99_24 rfl ?_
    refine am_iconst (nI 4) d99_26 (by decide) ?_
    refine am_icgeN 46 f 4 d99_27 (by decide) rfl rfl (by omega) (by decide) (fun h27 => ?_) (fun h27 => ?_)
    · obtain rfl : f = 4 := by omega
      exact hk
    · refine am_iload_n d99_30 rfl ?_
      refine am_aload_n d99_31 rfl ?_
      refine am_iload_n d99_32 rfl ?_
      refine am_iload d99_33 rfl ?_
      refine am_cv2 97 d99_35 ml99_39 rfl (by decide) (bv_0 hv) rfl rfl rfl (Nat.le_of_ble_eq_true rfl) ?_
      refine c_referredBy hv (f := f) (by omega) ?_
      show am_W 99 38 _ (.int _ :: _) _ _
      refine am_ior d99_38 ?_
      refine am_istore_n d99_39 (Nat.le_of_ble_eq_true rfl) rfl ?_
      refine am_incN f d99_40 rfl rfl ?_
      refine am_goto 24 d99_43 (by decide) ?_
      exact ihf h27
  have loop : ∀ i, i ≤ 12 → ∀ (w : Value) (s old : Int32), Q (.inl (some (.int (sp_clo (sp_fld (fun t f => sp_refd (M.1 (v + 1)) (M.1 (v + 2)) t f) 4) (12 - i) s old)))) M → am_W kV_allLedTo 7 [.ref v, .int x, .int s, .int old, .int (nI i), w] [] M Q := by
    refine am_loop 12 (fun i hi ih => ?_)
    intro w s old hq
    refine am_iload d99_7 rfl ?_
    refine am_bipush (nI 12) d99_9 (by decide) ?_
    refine am_icgeN 52 i 12 d99_11 (by decide) rfl rfl (by omega) (by decide) (fun h11 => ?_) (fun h11 => ?_)
    · refine am_iload_n d99_52 rfl ?_
      refine am_iret d99_53 rfl rfl ?_
      obtain rfl : i = 12 := by omega
      exact hq
    · refine am_iload_n d99_14 rfl ?_
      refine am_iload_n d99_15 rfl ?_
      refine am_iceq 52 d99_16 (by decide) (fun h16 => ?_) (fun h16 => ?_)
      · refine am_iload_n d99_52 rfl ?_
        refine am_iret d99_53 rfl rfl ?_
        have hd : 12 - i = (12 - (i + 1)) + 1 := by omega
        rw [hd] at hq
        simp only [sp_clo, if_pos h16] at hq
        exact hq
      · refine am_iload_n d99_19 rfl ?_
        refine am_istore_n d99_20 (Nat.le_of_ble_eq_true rfl) rfl ?_
        refine am_iconst (nI 0) d99_21 (by decide) ?_
        refine am_istore d99_22 (Nat.le_of_ble_eq_true rfl) rfl ?_
        refine inner x s s i 0 (by decide) ?_
        refine am_incN i d99_46 rfl rfl ?_
        refine am_goto 7 d99_49 (by decide) ?_
        refine ih h11 _ _ _ ?_
        have hd : 12 - i = (12 - (i + 1)) + 1 := by omega
        rw [hd] at hq
        simp only [sp_clo, if_neg h16] at hq
        exact hq
  show am_W kV_allLedTo 0 _ [] M Q
  refine am_iload_n d99_0 rfl ?_
  refine am_istore_n d99_1 (Nat.le_of_ble_eq_true rfl) rfl ?_
  refine am_iconst 0 d99_2 (by decide) ?_
  refine am_istore_n d99_3 (Nat.le_of_ble_eq_true rfl) rfl ?_
  refine am_iconst (nI 0) d99_4 (by decide) ?_
  refine am_istore d99_5 (Nat.le_of_ble_eq_true rfl) rfl ?_
  exact loop 0 (by decide) _ _ _ hQ
theorem c_next {M0 M : am_M} {q : Nat → Nat} {len i : Nat} {s : Int32} {Q : am_T} (ht : tx M0 q len) (hp : pm M0 M i s) (hi : i < 2 ^ 30) (h1 : i < len → ∀ M', pm M0 M' (i + 1) s → Q (.inl (some (.int (nI (q i))))) M') (h0 : len ≤ i → Q (.inl (some (.int 0))) M) : am_W kP_next 0 (am_in kP_next [.ref 25]) [] M Q := by
  obtain ⟨t1, t2, t3⟩ := ht
  have e26 : M.1 26 = M0.1 26 := hp.1.eq 26 (by decide)
  have el : M.1 25 1 = nI len := hp.2.1.trans t1
  have ea : M.1 25 2 = nI i := hp.2.2.1
  show am_W kP_next 0 _ [] M Q
  refine am_aload_n d91_0 rfl ?_
  refine am_geti d91_1 fl91_19 sh_25 rfl ?_
  rw [ea]
  refine am_aload_n d91_4 rfl ?_
  refine am_geti d91_5 fl91_15 sh_25 rfl ?_
  rw [el]
  refine am_icltN 13 i len d91_8 (by decide) rfl rfl (by omega) (by omega) (fun h8 => ?_) (fun h8 => ?_)
  · refine am_aload_n d91_13 rfl ?_
    refine am_getr d91_14 fl91_9 sh_25 rfl ?_
    refine am_aload_n d91_17 rfl ?_
    refine am_geti d91_18 fl91_19 sh_25 rfl ?_
    rw [ea]
    refine am_caldN i d91_21 sh_26 (by omega) (by decide) ?_
    refine am_istore_n d91_22 (Nat.le_of_ble_eq_true rfl) rfl ?_
    refine am_aload_n d91_23 rfl ?_
    refine am_dup d91_24 rfl ?_
    refine am_geti d91_25 fl91_19 sh_25 rfl ?_
    rw [ea]
    refine am_iconst 1 d91_28 (by decide) ?_
    refine am_iadd d91_29 ?_
    rw [nI_1]
    refine am_put d91_30 fl91_19 sh_25 rfl rfl rfl rfl ?_
    refine am_iload_n d91_33 rfl ?_
    rw [e26, (t3 i h8).1]
    refine am_iret d91_34 rfl (pk_charN (by have := (t3 i h8).2; omega)).1 ?_
    exact h1 h8 _ (hp.at (i + 1))
  · refine am_iconst 0 d91_11 (by decide) ?_
    refine am_iret d91_12 rfl (by decide) ?_
    exact h0 h8
theorem c_takes {c : Nat} {M0 M : am_M} {q : Nat → Nat} {len i : Nat} {s : Int32} {Q : am_T} (ht : tx M0 q len) (hp : pm M0 M i s) (hi : i < 2 ^ 30) (hc : c < 127) (h1 : i < len → q i = c → ∀ M', pm M0 M' (i + 1) s → Q (.inl (some (.int 1))) M') (h0 : ¬ (i < len ∧ q i = c) → Q (.inl (some (.int 0))) M) : am_W kP_takes 0 (am_in kP_takes [.ref 25, .int (nI c)]) [] M Q := by
  obtain ⟨t1, t2, t3⟩ := ht
  have e26 : M.1 26 = M0.1 26 := hp.1.eq 26 (by decide)
  have el : M.1 25 1 = nI len := hp.2.1.trans t1
  have ea : M.1 25 2 = nI i := hp.2.2.1
  show am_W kP_takes 0 _ [] M Q
  refine am_aload_n d92_0 rfl ?_
  refine am_geti d92_1 fl92_19 sh_25 rfl ?_
  rw [ea]
  refine am_aload_n d92_4 rfl ?_
  refine am_geti d92_5 fl92_15 sh_25 rfl ?_
  rw [el]
  refine am_icgeN 24 i len d92_8 (by decide) rfl rfl (by omega) (by omega) (fun h8 => ?_) (fun h8 => ?_)
  · refine am_iconst 0 d92_24 (by decide) ?_
    refine am_iret d92_25 rfl (by decide) ?_
    first | exact h1 h8 ((nI_eq (by have := (t3 i h8).2; omega) (by omega)).mp h21) _ (hp.at (i + 1)) | exact h0 (fun z => absurd z.1 (by omega)) | exact h0 (fun z => h21 (by rw [z.2]))
  · refine am_aload_n d92_11 rfl ?_
    refine am_getr d92_12 fl92_9 sh_25 rfl ?_
    refine am_aload_n d92_15 rfl ?_
    refine am_geti d92_16 fl92_19 sh_25 rfl ?_
    rw [ea]
    refine am_caldN i d92_19 sh_26 (by omega) (by decide) ?_
    rw [e26, (t3 i h8).1]
    refine am_iload_n d92_20 rfl ?_
    refine am_iceq 26 d92_21 (by decide) (fun h21 => ?_) (fun h21 => ?_)
    · refine am_aload_n d92_26 rfl ?_
      refine am_dup d92_27 rfl ?_
      refine am_geti d92_28 fl92_19 sh_25 rfl ?_
      rw [ea]
      refine am_iconst 1 d92_31 (by decide) ?_
      refine am_iadd d92_32 ?_
      rw [nI_1]
      refine am_put d92_33 fl92_19 sh_25 rfl rfl rfl rfl ?_
      refine am_iconst 1 d92_36 (by decide) ?_
      refine am_iret d92_37 rfl (by decide) ?_
      first | exact h1 h8 ((nI_eq (by have := (t3 i h8).2; omega) (by omega)).mp h21) _ (hp.at (i + 1)) | exact h0 (fun z => absurd z.1 (by omega)) | exact h0 (fun z => h21 (by rw [z.2]))
    · refine am_iconst 0 d92_24 (by decide) ?_
      refine am_iret d92_25 rfl (by decide) ?_
      first | exact h1 h8 ((nI_eq (by have := (t3 i h8).2; omega) (by omega)).mp h21) _ (hp.at (i + 1)) | exact h0 (fun z => absurd z.1 (by omega)) | exact h0 (fun z => h21 (by rw [z.2]))
theorem c_isDigit {a : Nat} {M : am_M} {Q : am_T} (ha : a < 2 ^ 30) (h1 : 48 ≤ a → a < 58 → Q (.inl (some (.int 1))) M) (h0 : ¬ (48 ≤ a ∧ a < 58) → Q (.inl (some (.int 0))) M) : am_W kP_isDigit 0 (am_in kP_isDigit [.int (nI a)]) [] M Q := by
  show am_W kP_isDigit 0 _ [] M Q
  refine am_iload_n d93_0 rfl ?_
  refine am_bipush (nI 48) d93_1 (by decide) ?_
  refine am_icltN 16 a 48 d93_3 (by decide) rfl rfl (by omega) (by decide) (fun h3 => ?_) (fun h3 => ?_)
  · refine am_iconst 0 d93_16 (by decide) ?_
    refine am_iret d93_17 rfl (by decide) ?_
    first | exact h1 h3 (Nat.lt_succ_of_le (Nat.le_of_not_lt (fun z => h9 (nI_lt z (by omega))))) | exact h0 (fun z => absurd ((nI_ltI (a := 57) (b := a) (by decide) (by omega)).mp h9) (by omega)) | exact h0 (fun z => absurd z.1 (by omega))
  · refine am_iload_n d93_6 rfl ?_
    refine am_bipush (nI 57) d93_7 (by decide) ?_
    refine am_icgt 16 d93_9 (by decide) (fun h9 => ?_) (fun h9 => ?_)
    · refine am_iconst 0 d93_16 (by decide) ?_
      refine am_iret d93_17 rfl (by decide) ?_
      first | exact h1 h3 (Nat.lt_succ_of_le (Nat.le_of_not_lt (fun z => h9 (nI_lt z (by omega))))) | exact h0 (fun z => absurd ((nI_ltI (a := 57) (b := a) (by decide) (by omega)).mp h9) (by omega)) | exact h0 (fun z => absurd z.1 (by omega))
    · refine am_iconst 1 d93_12 (by decide) ?_
      refine am_goto 17 d93_13 (by decide) ?_
      refine am_iret d93_17 rfl (by decide) ?_
      first | exact h1 h3 (Nat.lt_succ_of_le (Nat.le_of_not_lt (fun z => h9 (nI_lt z (by omega))))) | exact h0 (fun z => absurd ((nI_ltI (a := 57) (b := a) (by decide) (by omega)).mp h9) (by omega)) | exact h0 (fun z => absurd z.1 (by omega))
theorem c_moved {v f : Nat} {fw : Int32} {M0 M : am_M} {i : Nat} {s : Int32} {Q : am_T} (hv : bv v) (hf : f < 4) (hp : pm M0 M i s) (h1 : ¬ fw = 0 → Q (.inl (some (.int (sp_refd (M0.1 (v + 1)) (M0.1 (v + 2)) s f)))) M) (h0 : fw = 0 → Q (.inl (some (.int (sp_refg (M0.1 (v + 1)) (M0.1 (v + 2)) s f)))) M) : am_W kP_moved 0 (am_in kP_moved [.ref 25, .ref v, .int fw, .int (nI f)]) [] M Q := by
  have v13 : v ≤ 21 := by rcases hv with rfl | rfl | rfl <;> decide
  show am_W kP_moved 0 _ [] M Q
  refine am_iload_n d88_0 rfl ?_
  refine am_ifeq 16 d88_1 (by decide) (fun h1g => ?_) (fun h1g => ?_)
  · refine am_aload_n d88_16 rfl ?_
    refine am_aload_n d88_17 rfl ?_
    refine am_geti d88_18 fl88_22 sh_25 rfl ?_
    refine am_iload_n d88_21 rfl ?_
    refine am_cv2 98 d88_22 ml88_69 rfl (by decide) (bv_0 hv) rfl rfl rfl (Nat.le_of_ble_eq_true rfl) ?_
    rw [show M.1 25 3 = s from hp.2.2.2]
    refine c_referringTo hv hf ?_
    show am_W 88 25 _ (.int _ :: _) _ _
    refine am_iret d88_25 rfl rfl ?_
    rw [hp.1.eq (v + 1) (by simp; omega), hp.1.eq (v + 2) (by simp; omega)]
    first | exact h1 h1g | exact h0 h1g
  · refine am_aload_n d88_4 rfl ?_
    refine am_aload_n d88_5 rfl ?_
    refine am_geti d88_6 fl88_22 sh_25 rfl ?_
    refine am_iload_n d88_9 rfl ?_
    refine am_cv2 97 d88_10 ml88_66 rfl (by decide) (bv_0 hv) rfl rfl rfl (Nat.le_of_ble_eq_true rfl) ?_
    rw [show M.1 25 3 = s from hp.2.2.2]
    refine c_referredBy hv hf ?_
    show am_W 88 13 _ (.int _ :: _) _ _
    refine am_goto 25 d88_13 (by decide) ?_
    refine am_iret d88_25 rfl rfl ?_
    rw [hp.1.eq (v + 1) (by simp; omega), hp.1.eq (v + 2) (by simp; omega)]
    first | exact h1 h1g | exact h0 h1g
