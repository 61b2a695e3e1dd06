/-! Arrays.fill, View.clear -/
theorem c_fill {p n : Nat} {x : Int32} {M : am_M} {Q : am_T} (hs : am_sh p = some (.inl (.int, n))) (hn : n < 2 ^ 31) (hQ : Q (.inl none) (am_fill M p n x)) : am_W kA_fill 0 (am_in kA_fill [.ref p, .int x]) [] M Q := by
  have loop : ∀ i, i ≤ n → am_W kA_fill 5 [.ref p, .int x, .int (nI i), .int (nI n)] [] (am_fill M p i x) Q := by
    refine am_loop n (fun i hi ih => ?_)
    refine am_iload_n d129_5 rfl ?_
    refine am_iload_n d129_6 rfl ?_
    refine am_icgeN 20 i n d129_7 (by decide) rfl rfl (by omega) (by omega) (fun h7 => ?_) (fun h7 => ?_)
    · refine am_vret d129_20 rfl ?_
      obtain rfl : i = n := by omega
      exact hQ
    · refine am_aload_n d129_10 rfl ?_
      refine am_iload_n d129_11 rfl ?_
      refine am_iload_n d129_12 rfl ?_
      refine am_iastN i d129_13 hs h7 hn ?_
      rw [am_fill_s]
      refine am_incN i d129_14 rfl rfl ?_
      refine am_goto 5 d129_17 (by decide) ?_
      exact ih h7
  show am_W kA_fill 0 [.ref p, .int x, .null, .null] [] M Q
  refine am_iconst (nI 0) d129_0 (by decide) ?_
  refine am_istore_n d129_1 (Nat.le_of_ble_eq_true rfl) rfl ?_
  refine am_aload_n d129_2 rfl ?_
  refine am_alen d129_3 hs (by decide) ?_
  refine am_istore_n d129_4 (Nat.le_of_ble_eq_true rfl) rfl ?_
  rw [← am_fill_0 (M := M) (p := p) (x := x)]
  exact loop 0 (Nat.zero_le _)
/-- a place of a View -/
def bv (v : Nat) : Prop := v = 13 ∨ v = 17 ∨ v = 21
theorem bv_0 {v : Nat} (h : bv v) : am_sh v = some (.inr (2, [some (v + 1), some (v + 2), some (v + 3)])) := by rcases h with rfl | rfl | rfl <;> rfl
theorem bv_1 {v : Nat} (h : bv v) : am_sh (v + 1) = some (.inl (.int, 48)) := by rcases h with rfl | rfl | rfl <;> rfl
theorem bv_2 {v : Nat} (h : bv v) : am_sh (v + 2) = some (.inl (.int, 48)) := by rcases h with rfl | rfl | rfl <;> rfl
theorem bv_3 {v : Nat} (h : bv v) : am_sh (v + 3) = some (.inl (.int, 48)) := by rcases h with rfl | rfl | rfl <;> rfl
theorem c_clear {v : Nat} {M : am_M} {Q : am_T} (hv : bv v) (hQ : Q (.inl none) (am_fill (am_fill (am_fill M (v + 1) 48 0) (v + 2) 48 0) (v + 3) 48 (-1))) : am_W kV_clear 0 (am_in kV_clear [.ref v]) [] M Q := by
  show am_W kV_clear 0 [.ref v] [] M Q
  refine am_aload_n d95_0 rfl ?_
  refine am_getr d95_1 fl95_9 (bv_0 hv) rfl ?_
  refine am_iconst 0 d95_4 (by decide) ?_
  refine am_cs2 129 d95_5 ml95_21 rfl (by decide) rfl rfl rfl (Nat.le_of_ble_eq_true rfl) ?_
  refine c_fill (bv_1 hv) (by decide) ?_
  show am_W 95 8 _ _ _ _
  refine am_aload_n d95_8 rfl ?_
  refine am_getr d95_9 fl95_15 (bv_0 hv) rfl ?_
  refine am_iconst 0 d95_12 (by decide) ?_
  refine am_cs2 129 d95_13 ml95_21 rfl (by decide) rfl rfl rfl (Nat.le_of_ble_eq_true rfl) ?_
  refine c_fill (bv_2 hv) (by decide) ?_
  show am_W 95 16 _ _ _ _
  refine am_aload_n d95_16 rfl ?_
  refine am_getr d95_17 fl95_18 (bv_0 hv) rfl ?_
  refine am_iconst (-1) d95_20 (by decide) ?_
  refine am_cs2 129 d95_21 ml95_21 rfl (by decide) rfl rfl rfl (Nat.le_of_ble_eq_true rfl) ?_
  refine c_fill (bv_3 hv) (by decide) ?_
  show am_W 95 24 _ _ _ _
  refine am_vret d95_24 rfl ?_
  exact hQ
