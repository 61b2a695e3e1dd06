/-! Path.byteOf, canHold, hasRoomFor, add, clear; append, markGiven, isCarried, countCarried, countConflicts, carryTo -/
/-- byte k of a word, from the left -/
def by_s (k : Nat) : Int32 := if k < 4 then nI (24 - 8 * k) else -8
def by_u (w : Int32) (k : Nat) : Int32 := (w.toUInt32 >>> ((by_s k).toUInt32 &&& Int32.toUInt32 31)).toInt32 &&& 255
theorem by_n (w : Int32) (k : Nat) : ∃ n, n < 256 ∧ by_u w k = nI n := pk_andE _ 8 (by decide)
def ty_bad (w : Int32) (k : Nat) : Bool := !decide (by_u w k = 0) && (decide (by_u w k < 33) || decide (126 < by_u w k))
def ty_on (w : Int32) (k : Nat) : Bool := !decide (by_u w k = 0)
/-- the text behind k bytes of the word -/
def ty_t (w : Int32) (t : Nat → Int32) (len : Nat) : Nat → (Nat → Int32)
  | 0 => t
  | k + 1 => if ty_on w k = true then upd (ty_t w t len k) (len + sp_cnt (ty_on w) k) (by_u w k) else ty_t w t len k
theorem ty_t_t {w : Int32} {t : Nat → Int32} {len k : Nat} (h : ty_on w k = true) : ty_t w t len (k + 1) = upd (ty_t w t len k) (len + sp_cnt (ty_on w) k) (by_u w k) := by simp [ty_t, h]
theorem ty_t_f {w : Int32} {t : Nat → Int32} {len k : Nat} (h : ¬ ty_on w k = true) : ty_t w t len (k + 1) = ty_t w t len k := by simp [ty_t, h]
theorem by_dec {i : Nat} (h : i < 4) : by_s i + Int32.ofInt (-8) = by_s (i + 1) := by
  have : i = 0 ∨ i = 1 ∨ i = 2 ∨ i = 3 := by omega
  rcases this with rfl | rfl | rfl | rfl <;> decide
theorem by_lt {i : Nat} (h : i ≤ 4) (hs : by_s i < 0) : i = 4 := by
  have : i = 0 ∨ i = 1 ∨ i = 2 ∨ i = 3 ∨ i = 4 := by omega
  rcases this with rfl | rfl | rfl | rfl | rfl <;> first | rfl | exact absurd hs (by decide)
theorem by_ge {i : Nat} (h : i ≤ 4) (hs : ¬ by_s i < 0) : i < 4 := by
  have : i = 0 ∨ i = 1 ∨ i = 2 ∨ i = 3 ∨ i = 4 := by omega
  rcases this with rfl | rfl | rfl | rfl | rfl <;> first | decide | exact absurd (by decide) hs
theorem by_2c (w : Int32) (k : Nat) : ((by_u w k).toUInt32 % 65536).toInt32 = by_u w k := by
  obtain ⟨n, hn, e⟩ := by_n w k
  rw [e, pk_char, pk_tn (by omega), Nat.mod_eq_of_lt (by omega)]
theorem by_c (w : Int32) (k : Nat) : vp_nar .char (by_u w k) = by_u w k := by
  rw [← by_2c w k]; exact pk_vc _
theorem c_byteOf {w : Int32} {k : Nat} {M : am_M} {Q : am_T} (hQ : Q (.inl (some (.int (by_u w k)))) M) : am_W kP_byteOf 0 (am_in kP_byteOf [.int w, .int (by_s k)]) [] M Q := by
  show am_W kP_byteOf 0 _ [] M Q
  refine am_iload_n d94_0 rfl ?_
  refine am_iload_n d94_1 rfl ?_
  refine am_iushr d94_2 ?_
  refine am_sipush 255 d94_3 (by decide) ?_
  refine am_iand d94_6 ?_
  refine am_iret d94_7 rfl rfl ?_
  exact hQ
theorem c_canHold {w : Int32} {M : am_M} {Q : am_T} (h1 : (∀ j, j < 4 → ¬ ty_bad w j = true) → Q (.inl (some (.int 1))) M) (h0 : (∃ j, j < 4 ∧ ty_bad w j = true) → Q (.inl (some (.int 0))) M) : am_W kP_canHold 0 (am_in kP_canHold [.ref 25, .int w]) [] M Q := by
  have loop : ∀ i, i ≤ 4 → ∀ x : Value, (∀ j, j < i → ¬ ty_bad w j = true) → am_W kP_canHold 3 [.ref 25, .int w, .int (by_s i), x] [] M Q := by
    refine am_loop 4 (fun i hi ih => ?_)
    intro x hp
    refine am_iload_n d80_3 rfl ?_
    refine am_iflt 37 d80_4 (by decide) (fun h => ?_) (fun h => ?_)
    · obtain rfl := by_lt hi h
      refine am_iconst 1 d80_37 (by decide) ?_
      refine am_iret d80_38 rfl (by decide) ?_
      first | exact h1 (fun j hj => by simpa using hp j hj) | (have h27 := Int32.not_le.mp h26; exact h0 ⟨i, h4, by simp [ty_bad, *]⟩) | exact h0 ⟨i, h4, by simp [ty_bad, *]⟩
    · have h4 := by_ge hi h
      refine am_iload_n d80_7 rfl ?_
      refine am_iload_n d80_8 rfl ?_
      refine am_cs2 94 d80_9 ml80_25 rfl (by decide) rfl rfl rfl (Nat.le_of_ble_eq_true rfl) ?_
      refine c_byteOf (k := i) ?_
      show am_W 80 12 _ (.int _ :: _) _ _
      refine am_istore_n d80_12 (Nat.le_of_ble_eq_true rfl) rfl ?_
      refine am_iload_n d80_13 rfl ?_
      refine am_ifeq 31 d80_14 (by decide) (fun h14 => ?_) (fun h14 => ?_)
      · refine am_iinc (by_s (i + 1)) d80_31 rfl (by_dec h4) rfl ?_
        refine am_goto 3 d80_34 (by decide) ?_
        exact ih h4 _ (fun j hj => by rcases Nat.lt_succ_iff_lt_or_eq.mp hj with h | rfl; exact hp j h; simp [ty_bad, *])
      · refine am_iload_n d80_17 rfl ?_
        refine am_bipush 33 d80_18 (by decide) ?_
        refine am_iclt 29 d80_20 (by decide) (fun h20 => ?_) (fun h20 => ?_)
        · refine am_iconst 0 d80_29 (by decide) ?_
          refine am_iret d80_30 rfl (by decide) ?_
          first | exact h1 (fun j hj => by simpa using hp j hj) | (have h27 := Int32.not_le.mp h26; exact h0 ⟨i, h4, by simp [ty_bad, *]⟩) | exact h0 ⟨i, h4, by simp [ty_bad, *]⟩
        · refine am_iload_n d80_23 rfl ?_
          refine am_bipush 126 d80_24 (by decide) ?_
          refine am_icle 31 d80_26 (by decide) (fun h26 => ?_) (fun h26 => ?_)
          · refine am_iinc (by_s (i + 1)) d80_31 rfl (by_dec h4) rfl ?_
            refine am_goto 3 d80_34 (by decide) ?_
            exact ih h4 _ (fun j hj => by rcases Nat.lt_succ_iff_lt_or_eq.mp hj with h | rfl; exact hp j h; simp [ty_bad, *])
          · refine am_iconst 0 d80_29 (by decide) ?_
            refine am_iret d80_30 rfl (by decide) ?_
            first | exact h1 (fun j hj => by simpa using hp j hj) | (have h27 := Int32.not_le.mp h26; exact h0 ⟨i, h4, by simp [ty_bad, *]⟩) | exact h0 ⟨i, h4, by simp [ty_bad, *]⟩
  show am_W kP_canHold 0 _ [] M Q
  refine am_bipush (by_s 0) d80_0 (by decide) ?_
  refine am_istore_n d80_2 (Nat.le_of_ble_eq_true rfl) rfl ?_
  exact loop 0 (by decide) _ (fun j hj => absurd hj (Nat.not_lt_zero _))
theorem c_hasRoomFor {w : Int32} {len : Nat} {M : am_M} {Q : am_T} (hl : M.1 25 1 = nI len) (hl2 : len ≤ 32) (h1 : len + sp_cnt (ty_on w) 4 ≤ 32 → Q (.inl (some (.int 1))) M) (h0 : ¬ len + sp_cnt (ty_on w) 4 ≤ 32 → Q (.inl (some (.int 0))) M) : am_W kP_hasRoomFor 0 (am_in kP_hasRoomFor [.ref 25, .int w]) [] M Q := by
  have loop : ∀ i, i ≤ 4 → am_W kP_hasRoomFor 8 [.ref 25, .int w, .int (nI (len + sp_cnt (ty_on w) i)), .int (by_s i)] [] M Q := by
    refine am_loop 4 (fun i hi ih => ?_)
    refine am_iload_n d81_8 rfl ?_
    refine am_iflt 29 d81_9 (by decide) (fun h => ?_) (fun h => ?_)
    · obtain rfl := by_lt hi h
      refine am_iload_n d81_29 rfl ?_
      refine am_bipush (nI 32) d81_30 (by decide) ?_
      have hb := sp_cnt_le (ty_on w) 4
      refine am_icgt 39 d81_32 (by decide) (fun h => ?_) (fun h => ?_)
      · have h32 : 32 < len + sp_cnt (ty_on w) 4 := (nI_ltI (by decide) (by omega)).mp h
        refine am_iconst 0 d81_39 (by decide) ?_
        refine am_iret d81_40 rfl (by decide) ?_
        first | exact h1 (by have := h32; omega) | exact h0 (by have := h32; omega)
      · have h32 : ¬ 32 < len + sp_cnt (ty_on w) 4 := fun z => h (nI_lt z (by omega))
        refine am_iconst 1 d81_35 (by decide) ?_
        refine am_goto 40 d81_36 (by decide) ?_
        refine am_iret d81_40 rfl (by decide) ?_
        first | exact h1 (by have := h32; omega) | exact h0 (by have := h32; omega)
    · have h4 := by_ge hi h
      refine am_iload_n d81_12 rfl ?_
      refine am_iload_n d81_13 rfl ?_
      refine am_cs2 94 d81_14 ml81_25 rfl (by decide) rfl rfl rfl (Nat.le_of_ble_eq_true rfl) ?_
      refine c_byteOf (k := i) ?_
      show am_W 81 17 _ (.int _ :: _) _ _
      refine am_ifeq 23 d81_17 (by decide) (fun h => ?_) (fun h => ?_)
      · rw [sp_cnt_f (f := ty_on w) (n := i) (by simp [ty_on, h])]
        refine am_iinc (by_s (i + 1)) d81_23 rfl (by_dec h4) rfl ?_
        refine am_goto 8 d81_26 (by decide) ?_
        exact ih h4
      · have h5 : ty_on w i = true := by simp [ty_on, h]
        refine am_incE (len + sp_cnt (ty_on w) i) (len + sp_cnt (ty_on w) (i + 1)) (by rw [← sp_cnt_t h5]; omega) d81_20 rfl rfl ?_
        refine am_iinc (by_s (i + 1)) d81_23 rfl (by_dec h4) rfl ?_
        refine am_goto 8 d81_26 (by decide) ?_
        exact ih h4
  show am_W kP_hasRoomFor 0 _ [] M Q
  refine am_aload_n d81_0 rfl ?_
  refine am_geti d81_1 fl81_15 sh_25 rfl ?_
  rw [hl]
  refine am_istore_n d81_4 (Nat.le_of_ble_eq_true rfl) rfl ?_
  refine am_bipush (by_s 0) d81_5 (by decide) ?_
  refine am_istore_n d81_7 (Nat.le_of_ble_eq_true rfl) rfl ?_
  exact loop 0 (by decide)
theorem ty_mono (w : Int32) : ∀ a b, a ≤ b → sp_cnt (ty_on w) a ≤ sp_cnt (ty_on w) b := by
  intro a b h
  induction b with
  | zero => obtain rfl : a = 0 := by omega
            exact Nat.le_refl _
  | succ b ih =>
    by_cases hb : a = b + 1
    · subst hb; exact Nat.le_refl _
    · refine Nat.le_trans (ih (by omega)) ?_
      simp only [sp_cnt]
      split <;> omega
theorem c_Padd {w : Int32} {len : Nat} {M : am_M} {Q : am_T} (hl : M.1 25 1 = nI len) (hl2 : len + sp_cnt (ty_on w) 4 ≤ 32) (hQ : ∀ M', fr [25, 26] M M' → M'.1 25 1 = nI (len + sp_cnt (ty_on w) 4) → M'.1 26 = ty_t w (M.1 26) len 4 → Q (.inl (some (.int (nI (len + sp_cnt (ty_on w) 4))))) M') : am_W kP_add 0 (am_in kP_add [.ref 25, .int w]) [] M Q := by
  have loop : ∀ i, i ≤ 4 → ∀ (x : Value) (M1 : am_M), (fr [25, 26] M M1 ∧ M1.1 25 1 = nI (len + sp_cnt (ty_on w) i) ∧ M1.1 26 = ty_t w (M.1 26) len i) → am_W kP_add 3 [.ref 25, .int w, .int (by_s i), x] [] M1 Q := by
    refine am_loop 4 (fun i hi ih => ?_)
    intro x M1 I
    have hl1 := I.2.1
    refine am_iload_n d82_3 rfl ?_
    refine am_iflt 44 d82_4 (by decide) (fun h => ?_) (fun h => ?_)
    · obtain rfl := by_lt hi h
      refine am_aload_n d82_44 rfl ?_
      refine am_geti d82_45 fl82_15 sh_25 rfl ?_
      rw [hl1]
      refine am_iret d82_48 rfl rfl ?_
      exact hQ M1 I.1 I.2.1 I.2.2
    · have h4 := by_ge hi h
      refine am_iload_n d82_7 rfl ?_
      refine am_iload_n d82_8 rfl ?_
      refine am_cs2 94 d82_9 ml82_25 rfl (by decide) rfl rfl rfl (Nat.le_of_ble_eq_true rfl) ?_
      refine c_byteOf (k := i) ?_
      show am_W 82 12 _ (.int _ :: _) _ _
      refine am_istore_n d82_12 (Nat.le_of_ble_eq_true rfl) rfl ?_
      refine am_iload_n d82_13 rfl ?_
      refine am_ifeq 38 d82_14 (by decide) (fun h => ?_) (fun h => ?_)
      · have hno : ¬ ty_on w i = true := by simp [ty_on, h]
        refine am_iinc (by_s (i + 1)) d82_38 rfl (by_dec h4) rfl ?_
        refine am_goto 3 d82_41 (by decide) ?_
        exact ih h4 _ M1 ⟨I.1, by rw [← sp_cnt_f hno]; exact I.2.1, by rw [ty_t_f hno]; exact I.2.2⟩
      · have hon : ty_on w i = true := by simp [ty_on, h]
        have hcl := sp_cnt_t hon
        have hcm := ty_mono w (i + 1) 4 h4
        refine am_aload_n d82_17 rfl ?_
        refine am_getr d82_18 fl82_9 sh_25 rfl ?_
        refine am_aload_n d82_21 rfl ?_
        refine am_geti d82_22 fl82_15 sh_25 rfl ?_
        rw [hl1]
        refine am_iload_n d82_25 rfl ?_
        refine am_i2c d82_26 ?_
        rw [by_2c w i]
        refine am_castN (len + sp_cnt (ty_on w) i) (by_u w i) d82_27 sh_26 (by omega) (by decide) (by_c w i) ?_
        refine am_aload_n d82_28 rfl ?_
        refine am_dup d82_29 rfl ?_
        refine am_geti d82_30 fl82_15 sh_25 rfl ?_
        rw [am_set_ne (by decide), hl1]
        refine am_iconst 1 d82_33 (by decide) ?_
        refine am_iadd d82_34 ?_
        rw [nI_1, show len + sp_cnt (ty_on w) i + 1 = len + sp_cnt (ty_on w) (i + 1) by omega]
        refine am_put d82_35 fl82_15 sh_25 rfl rfl rfl rfl ?_
        refine am_iinc (by_s (i + 1)) d82_38 rfl (by_dec h4) rfl ?_
        refine am_goto 3 d82_41 (by decide) ?_
        exact ih h4 _ _ ⟨(I.1.set (by simp)).set (by simp), by rw [am_set_self]; simp [upd], by rw [am_set_ne (by decide), ty_t_t hon, ← I.2.2, am_set_self]⟩
  show am_W kP_add 0 _ [] M Q
  refine am_bipush (by_s 0) d82_0 (by decide) ?_
  refine am_istore_n d82_2 (Nat.le_of_ble_eq_true rfl) rfl ?_
  exact loop 0 (by decide) _ M ⟨fr.rf, hl, rfl⟩
theorem c_Pclear {M : am_M} {Q : am_T} (hQ : Q (.inl none) (am_set M 25 1 0)) : am_W kP_clear 0 (am_in kP_clear [.ref 25]) [] M Q := by
  show am_W kP_clear 0 _ [] M Q
  refine am_aload_n d83_0 rfl ?_
  refine am_iconst 0 d83_1 (by decide) ?_
  refine am_put d83_2 fl83_15 sh_25 rfl rfl rfl rfl ?_
  refine am_vret d83_5 rfl ?_
  exact hQ
