/-! Branches and Writes -/
theorem c_Badd {nb p : Nat} {m : Int32} {M : am_M} {Q : am_T} (hn : M.1 1 4 = nI nb) (h6 : nb < 6) (hQ : Q (.inl (some (.int (nI nb)))) (am_set (am_set (am_set (am_set M 2 nb (nI p)) 3 nb m) 4 nb 1) 1 4 (nI (nb + 1)))) : am_W kB_add 0 (am_in kB_add [.ref 1, .int (nI p), .int m]) [] M Q := by
  show am_W kB_add 0 _ [] M Q
  refine am_aload_n d76_0 rfl ?_
  refine am_geti d76_1 fl76_25 sh_1 rfl ?_
  rw [hn]
  refine am_istore_n d76_4 (Nat.le_of_ble_eq_true rfl) rfl ?_
  refine am_aload_n d76_5 rfl ?_
  refine am_getr d76_6 fl76_9 sh_1 rfl ?_
  refine am_iload_n d76_9 rfl ?_
  refine am_iload_n d76_10 rfl ?_
  refine am_iastN nb d76_11 sh_2 h6 (by decide) ?_
  refine am_aload_n d76_12 rfl ?_
  refine am_getr d76_13 fl76_15 sh_1 rfl ?_
  refine am_iload_n d76_16 rfl ?_
  refine am_iload_n d76_17 rfl ?_
  refine am_iastN nb d76_18 sh_3 h6 (by decide) ?_
  refine am_aload_n d76_19 rfl ?_
  refine am_getr d76_20 fl76_18 sh_1 rfl ?_
  refine am_iload_n d76_23 rfl ?_
  refine am_iconst 1 d76_24 (by decide) ?_
  refine am_zastN nb 1 d76_25 sh_4 h6 (by decide) (by decide) ?_
  refine am_aload_n d76_26 rfl ?_
  refine am_dup d76_27 rfl ?_
  refine am_geti d76_28 fl76_25 sh_1 rfl ?_
  refine am_iconst 1 d76_31 (by decide) ?_
  refine am_iadd d76_32 ?_
  rw [show (am_set (am_set (am_set M 2 nb (nI p)) 3 nb m) 4 nb 1).1 1 4 = nI nb from hn, nI_1]
  refine am_put d76_33 fl76_25 sh_1 rfl rfl rfl rfl ?_
  refine am_iload_n d76_36 rfl ?_
  refine am_iret d76_37 rfl rfl ?_
  exact hQ
theorem c_openCount {nb : Nat} {M : am_M} {Q : am_T} (hn : M.1 1 4 = nI nb) (h6 : nb ≤ 6) (hQ : Q (.inl (some (.int (nI (sp_cnt (fun b => !decide (M.1 4 b = 0)) nb))))) M) : am_W kB_openCount 0 (am_in kB_openCount [.ref 1]) [] M Q := by
  have loop : ∀ i, i ≤ nb → am_W kB_openCount 4 [.ref 1, .int (nI (sp_cnt (fun b => !decide (M.1 4 b = 0)) i)), .int (nI i)] [] M Q := by
    refine am_loop nb (fun i hi ih => ?_)
    refine am_iload_n d77_4 rfl ?_
    refine am_aload_n d77_5 rfl ?_
    refine am_geti d77_6 fl77_25 sh_1 rfl ?_
    refine am_icgeN 30 i nb d77_9 (by decide) rfl hn (by omega) (by omega) (fun h9 => ?_) (fun h9 => ?_)
    · refine am_iload_n d77_30 rfl ?_
      refine am_iret d77_31 rfl rfl ?_
      obtain rfl : i = nb := by omega
      exact hQ
    · refine am_aload_n d77_12 rfl ?_
      refine am_getr d77_13 fl77_18 sh_1 rfl ?_
      refine am_iload_n d77_16 rfl ?_
      refine am_zaldN i d77_17 sh_4 (by omega) (by decide) ?_
      refine am_ifeq 24 d77_18 (by decide) (fun h18 => ?_) (fun h18 => ?_)
      · rw [sp_cnt_f (f := (fun b => !decide (M.1 4 b = 0))) (n := i) (by simp [h18])]
        refine am_incN i d77_24 rfl rfl ?_
        refine am_goto 4 d77_27 (by decide) ?_
        exact ih h9
      · refine am_incE (sp_cnt (fun b => !decide (M.1 4 b = 0)) i) (sp_cnt (fun b => !decide (M.1 4 b = 0)) (i + 1)) (sp_cnt_t (by simp [h18])) d77_21 rfl rfl ?_
        refine am_incN i d77_24 rfl rfl ?_
        refine am_goto 4 d77_27 (by decide) ?_
        exact ih h9
  show am_W kB_openCount 0 _ [] M Q
  refine am_iconst (nI 0) d77_0 (by decide) ?_
  refine am_istore_n d77_1 (Nat.le_of_ble_eq_true rfl) rfl ?_
  refine am_iconst (nI 0) d77_2 (by decide) ?_
  refine am_istore_n d77_3 (Nat.le_of_ble_eq_true rfl) rfl ?_
  exact loop 0 (Nat.zero_le _)
/-- a row more -/
def sp_add (M : am_M) (nw : Nat) (b m c kd vl : Int32) : am_M := am_set (am_set (am_set (am_set (am_set (am_set M 7 nw b) 8 nw m) 9 nw c) 10 nw kd) 11 nw vl) 6 6 (nI (nw + 1))
theorem c_Wadd {nw : Nat} {b m c kd vl : Int32} {M : am_M} {Q : am_T} (hn : M.1 6 6 = nI nw) (h120 : nw < 120) (hQ : Q (.inl none) (sp_add M nw b m c kd vl)) : am_W kW_add 0 (am_in kW_add [.ref 6, .int b, .int m, .int c, .int kd, .int vl]) [] M Q := by
  show am_W kW_add 0 _ [] M Q
  refine am_aload_n d105_0 rfl ?_
  refine am_getr d105_1 fl105_9 sh_6 rfl ?_
  refine am_aload_n d105_4 rfl ?_
  refine am_geti d105_5 fl105_31 sh_6 rfl ?_
  rw [hn]
  refine am_iload_n d105_8 rfl ?_
  refine am_iastN nw d105_9 sh_7 h120 (by decide) ?_
  refine am_aload_n d105_10 rfl ?_
  refine am_getr d105_11 fl105_15 sh_6 rfl ?_
  refine am_aload_n d105_14 rfl ?_
  refine am_geti d105_15 fl105_31 sh_6 rfl ?_
  rw [show (am_set M 7 nw b).1 6 6 = nI nw from hn]
  refine am_iload_n d105_18 rfl ?_
  refine am_iastN nw d105_19 sh_8 h120 (by decide) ?_
  refine am_aload_n d105_20 rfl ?_
  refine am_getr d105_21 fl105_18 sh_6 rfl ?_
  refine am_aload_n d105_24 rfl ?_
  refine am_geti d105_25 fl105_31 sh_6 rfl ?_
  rw [show (am_set (am_set M 7 nw b) 8 nw m).1 6 6 = nI nw from hn]
  refine am_iload_n d105_28 rfl ?_
  refine am_iastN nw d105_29 sh_9 h120 (by decide) ?_
  refine am_aload_n d105_30 rfl ?_
  refine am_getr d105_31 fl105_21 sh_6 rfl ?_
  refine am_aload_n d105_34 rfl ?_
  refine am_geti d105_35 fl105_31 sh_6 rfl ?_
  rw [show (am_set (am_set (am_set M 7 nw b) 8 nw m) 9 nw c).1 6 6 = nI nw from hn]
  refine am_iload d105_38 rfl ?_
  refine am_iastN nw d105_40 sh_10 h120 (by decide) ?_
  refine am_aload_n d105_41 rfl ?_
  refine am_getr d105_42 fl105_24 sh_6 rfl ?_
  refine am_aload_n d105_45 rfl ?_
  refine am_geti d105_46 fl105_31 sh_6 rfl ?_
  rw [show (am_set (am_set (am_set (am_set M 7 nw b) 8 nw m) 9 nw c) 10 nw kd).1 6 6 = nI nw from hn]
  refine am_iload d105_49 rfl ?_
  refine am_iastN nw d105_51 sh_11 h120 (by decide) ?_
  refine am_aload_n d105_52 rfl ?_
  refine am_dup d105_53 rfl ?_
  refine am_geti d105_54 fl105_31 sh_6 rfl ?_
  refine am_iconst 1 d105_57 (by decide) ?_
  refine am_iadd d105_58 ?_
  rw [show (am_set (am_set (am_set (am_set (am_set M 7 nw b) 8 nw m) 9 nw c) 10 nw kd) 11 nw vl).1 6 6 = nI nw from hn, nI_1]
  refine am_put d105_59 fl105_31 sh_6 rfl rfl rfl rfl ?_
  refine am_vret d105_62 rfl ?_
  exact hQ
theorem c_countOf {nw : Nat} {x : Int32} {M : am_M} {Q : am_T} (hn : M.1 6 6 = nI nw) (h120 : nw ≤ 120) (hQ : Q (.inl (some (.int (nI (sp_cnt (fun i => decide (M.1 7 i = x)) nw))))) M) : am_W kW_countOf 0 (am_in kW_countOf [.ref 6, .int x]) [] M Q := by
  have loop : ∀ i, i ≤ nw → am_W kW_countOf 4 [.ref 6, .int x, .int (nI (sp_cnt (fun i => decide (M.1 7 i = x)) i)), .int (nI i)] [] M Q := by
    refine am_loop nw (fun i hi ih => ?_)
    refine am_iload_n d106_4 rfl ?_
    refine am_aload_n d106_5 rfl ?_
    refine am_geti d106_6 fl106_31 sh_6 rfl ?_
    refine am_icgeN 31 i nw d106_9 (by decide) rfl hn (by omega) (by omega) (fun h9 => ?_) (fun h9 => ?_)
    · refine am_iload_n d106_31 rfl ?_
      refine am_iret d106_32 rfl rfl ?_
      obtain rfl : i = nw := by omega
      exact hQ
    · refine am_aload_n d106_12 rfl ?_
      refine am_getr d106_13 fl106_9 sh_6 rfl ?_
      refine am_iload_n d106_16 rfl ?_
      refine am_ialdN i d106_17 sh_7 (by omega) (by decide) ?_
      refine am_iload_n d106_18 rfl ?_
      refine am_icne 25 d106_19 (by decide) (fun h19 => ?_) (fun h19 => ?_)
      · rw [sp_cnt_f (f := (fun i => decide (M.1 7 i = x))) (n := i) (by simp [h19])]
        refine am_incN i d106_25 rfl rfl ?_
        refine am_goto 4 d106_28 (by decide) ?_
        exact ih h9
      · refine am_incE (sp_cnt (fun i => decide (M.1 7 i = x)) i) (sp_cnt (fun i => decide (M.1 7 i = x)) (i + 1)) (sp_cnt_t (by simp [h19])) d106_22 rfl rfl ?_
        refine am_incN i d106_25 rfl rfl ?_
        refine am_goto 4 d106_28 (by decide) ?_
        exact ih h9
  show am_W kW_countOf 0 _ [] M Q
  refine am_iconst (nI 0) d106_0 (by decide) ?_
  refine am_istore_n d106_1 (Nat.le_of_ble_eq_true rfl) rfl ?_
  refine am_iconst (nI 0) d106_2 (by decide) ?_
  refine am_istore_n d106_3 (Nat.le_of_ble_eq_true rfl) rfl ?_
  exact loop 0 (Nat.zero_le _)
theorem c_unmarkAll {nw : Nat} {M : am_M} {Q : am_T} (hn : M.1 6 6 = nI nw) (h120 : nw ≤ 120) (hQ : ∀ M', fr [12] M M' → (∀ j, j < nw → M'.1 12 j = 0) → Q (.inl none) M') : am_W kW_unmarkAll 0 (am_in kW_unmarkAll [.ref 6]) [] M Q := by
  have loop : ∀ i, i ≤ nw → ∀ M1 : am_M, (fr [12] M M1 ∧ ∀ j, j < i → M1.1 12 j = 0) → am_W kW_unmarkAll 2 [.ref 6, .int (nI i)] [] M1 Q := by
    refine am_loop nw (fun i hi ih => ?_)
    intro M1 I
    have hc : M1.1 6 6 = nI nw := by rw [I.1.eq 6 (by decide)]; exact hn
    refine am_iload_n d108_2 rfl ?_
    refine am_aload_n d108_3 rfl ?_
    refine am_geti d108_4 fl108_31 sh_6 rfl ?_
    refine am_icgeN 23 i nw d108_7 (by decide) rfl hc (by omega) (by omega) (fun h7 => ?_) (fun h7 => ?_)
    · refine am_vret d108_23 rfl ?_
      obtain rfl : i = nw := by omega
      exact hQ M1 I.1 I.2
    · refine am_aload_n d108_10 rfl ?_
      refine am_getr d108_11 fl108_27 sh_6 rfl ?_
      refine am_iload_n d108_14 rfl ?_
      refine am_iconst 0 d108_15 (by decide) ?_
      refine am_zastN i 0 d108_16 sh_12 (by omega) (by decide) (by decide) ?_
      refine am_incN i d108_17 rfl rfl ?_
      refine am_goto 2 d108_20 (by decide) ?_
      exact ih h7 _ ⟨I.1.set (by decide), fun j hj => by
          rw [am_set_self]; unfold upd; split
          · rfl
          · exact I.2 j (by omega)⟩
  show am_W kW_unmarkAll 0 _ [] M Q
  refine am_iconst (nI 0) d108_0 (by decide) ?_
  refine am_istore_n d108_1 (Nat.le_of_ble_eq_true rfl) rfl ?_
  exact loop 0 (Nat.zero_le _) M ⟨fr.rf, fun j hj => absurd hj (by omega)⟩
theorem c_markShown {v nb nw : Nat} {M : am_M} {Q : am_T} (hv : bv v) (hR : bp_R (M.1 7) (M.1 9) nb nw) (hn : M.1 6 6 = nI nw) (hQ : ∀ M', fr [12] M M' → (∀ j, j < nw → M'.1 12 j = if (fun j => decide (M.1 8 j = M.1 (v + 3) (M.1 9 j).toNatClampNeg)) j = true then 1 else M.1 12 j) → Q (.inl none) M') : am_W kW_markShown 0 (am_in kW_markShown [.ref 6, .ref v]) [] M Q := by
  obtain ⟨h120, rows0⟩ := hR
  have v13 : 13 ≤ v := by rcases hv with rfl | rfl | rfl <;> decide
  have loop : ∀ i, i ≤ nw → ∀ M1 : am_M, (fr [12] M M1 ∧ ∀ j, j < nw → M1.1 12 j = if j < i then (if (fun j => decide (M.1 8 j = M.1 (v + 3) (M.1 9 j).toNatClampNeg)) j = true then 1 else M.1 12 j) else M.1 12 j) → am_W kW_markShown 2 [.ref 6, .ref v, .int (nI i)] [] M1 Q := by
    refine am_loop nw (fun i hi ih => ?_)
    intro M1 I
    have hc : M1.1 6 6 = nI nw := by rw [I.1.eq 6 (by decide)]; exact hn
    have e8 : M1.1 8 = M.1 8 := I.1.eq 8 (by decide)
    have e9 : M1.1 9 = M.1 9 := I.1.eq 9 (by decide)
    have ev : M1.1 (v + 3) = M.1 (v + 3) := I.1.eq _ (by simp; omega)
    have rows : ∀ i, i < nw → (∃ b, b < nb ∧ M.1 7 i = nI b) ∧ ∃ c, c < 48 ∧ M1.1 9 i = nI c := by rw [e9]; exact rows0
    refine am_iload_n d109_2 rfl ?_
    refine am_aload_n d109_3 rfl ?_
    refine am_geti d109_4 fl109_31 sh_6 rfl ?_
    refine am_icgeN 43 i nw d109_7 (by decide) rfl hc (by omega) (by omega) (fun h7 => ?_) (fun h7 => ?_)
    · refine am_vret d109_43 rfl ?_
      obtain rfl : i = nw := by omega
      exact hQ M1 I.1 (fun j hj => by rw [I.2 j (by omega), if_pos hj])
    · obtain ⟨-, ci, hc48, hci⟩ := rows i h7
      refine am_aload_n d109_10 rfl ?_
      refine am_getr d109_11 fl109_15 sh_6 rfl ?_
      refine am_iload_n d109_14 rfl ?_
      refine am_ialdN i d109_15 sh_8 (by omega) (by decide) ?_
      refine am_aload_n d109_16 rfl ?_
      refine am_getr d109_17 fl109_42 (bv_0 hv) rfl ?_
      refine am_aload_n d109_20 rfl ?_
      refine am_getr d109_21 fl109_18 sh_6 rfl ?_
      refine am_iload_n d109_24 rfl ?_
      refine am_ialdN i d109_25 sh_9 (by omega) (by decide) ?_
      refine am_ialdE ci hci d109_26 (bv_3 hv) hc48 (by decide) ?_
      refine am_icne 37 d109_27 (by decide) (fun h27 => ?_) (fun h27 => ?_)
      · refine am_incN i d109_37 rfl rfl ?_
        refine am_goto 2 d109_40 (by decide) ?_
        exact ih h7 M1 ⟨I.1, fun j hj => by
          by_cases hji : j = i
          · subst hji; rw [I.2 j hj, if_neg (Nat.lt_irrefl _), if_pos (by omega), if_neg (by rw [decide_eq_true_eq, ← e8, ← ev, ← e9, hci, nI_clamp (by omega)]; exact h27)]
          · rw [I.2 j hj]
            by_cases hlt : j < i
            · rw [if_pos hlt, if_pos (show j < i + 1 by omega)]
            · rw [if_neg hlt, if_neg (show ¬ j < i + 1 by omega)]⟩
      · refine am_aload_n d109_30 rfl ?_
        refine am_getr d109_31 fl109_27 sh_6 rfl ?_
        refine am_iload_n d109_34 rfl ?_
        refine am_iconst 1 d109_35 (by decide) ?_
        refine am_zastN i 1 d109_36 sh_12 (by omega) (by decide) (by decide) ?_
        refine am_incN i d109_37 rfl rfl ?_
        refine am_goto 2 d109_40 (by decide) ?_
        exact ih h7 _ ⟨I.1.set (by decide), fun j hj => by
          rw [am_set_self]; unfold upd
          by_cases hji : j = i
          · subst hji; rw [if_pos rfl, if_pos (by omega), if_pos (by rw [decide_eq_true_eq, ← e8, ← ev, ← e9, hci, nI_clamp (by omega)]; exact h27)]
          · rw [if_neg hji, I.2 j hj]
            by_cases hlt : j < i
            · rw [if_pos hlt, if_pos (show j < i + 1 by omega)]
            · rw [if_neg hlt, if_neg (show ¬ j < i + 1 by omega)]⟩
  show am_W kW_markShown 0 _ [] M Q
  refine am_iconst (nI 0) d109_0 (by decide) ?_
  refine am_istore_n d109_1 (Nat.le_of_ble_eq_true rfl) rfl ?_
  exact loop 0 (Nat.zero_le _) M ⟨fr.rf, fun j hj => by rw [if_neg (by omega)]⟩
theorem c_markOwnAfter {nw : Nat} {x m : Int32} {M : am_M} {Q : am_T} (h120 : nw ≤ 120) (hn : M.1 6 6 = nI nw) (hQ : ∀ M', fr [12] M M' → (∀ j, j < nw → M'.1 12 j = if (fun j => decide (M.1 7 j = x) && decide (m < M.1 8 j)) j = true then 1 else M.1 12 j) → Q (.inl none) M') : am_W kW_markOwnAfter 0 (am_in kW_markOwnAfter [.ref 6, .int x, .int m]) [] M Q := by
  have loop : ∀ i, i ≤ nw → ∀ M1 : am_M, (fr [12] M M1 ∧ ∀ j, j < nw → M1.1 12 j = if j < i then (if (fun j => decide (M.1 7 j = x) && decide (m < M.1 8 j)) j = true then 1 else M.1 12 j) else M.1 12 j) → am_W kW_markOwnAfter 2 [.ref 6, .int x, .int m, .int (nI i)] [] M1 Q := by
    refine am_loop nw (fun i hi ih => ?_)
    intro M1 I
    have hc : M1.1 6 6 = nI nw := by rw [I.1.eq 6 (by decide)]; exact hn
    have e7 : M1.1 7 = M.1 7 := I.1.eq 7 (by decide)
    have e8 : M1.1 8 = M.1 8 := I.1.eq 8 (by decide)
    refine am_iload_n d110_2 rfl ?_
    refine am_aload_n d110_3 rfl ?_
    refine am_geti d110_4 fl110_31 sh_6 rfl ?_
    refine am_icgeN 43 i nw d110_7 (by decide) rfl hc (by omega) (by omega) (fun h7 => ?_) (fun h7 => ?_)
    · refine am_vret d110_43 rfl ?_
      obtain rfl : i = nw := by omega
      exact hQ M1 I.1 (fun j hj => by rw [I.2 j (by omega), if_pos hj])
    · refine am_aload_n d110_10 rfl ?_
      refine am_getr d110_11 fl110_9 sh_6 rfl ?_
      refine am_iload_n d110_14 rfl ?_
      refine am_ialdN i d110_15 sh_7 (by omega) (by decide) ?_
      refine am_iload_n d110_16 rfl ?_
      refine am_icne 37 d110_17 (by decide) (fun h17 => ?_) (fun h17 => ?_)
      · refine am_incN i d110_37 rfl rfl ?_
        refine am_goto 2 d110_40 (by decide) ?_
        exact ih h7 M1 ⟨I.1, fun j hj => by
          by_cases hji : j = i
          · subst hji; rw [I.2 j hj, if_neg (Nat.lt_irrefl _), if_pos (by omega), if_neg (by rw [Bool.and_eq_true, decide_eq_true_eq, ← e7]; exact fun z => h17 z.1)]
          · rw [I.2 j hj]
            by_cases hlt : j < i
            · rw [if_pos hlt, if_pos (show j < i + 1 by omega)]
            · rw [if_neg hlt, if_neg (show ¬ j < i + 1 by omega)]⟩
      · refine am_aload_n d110_20 rfl ?_
        refine am_getr d110_21 fl110_15 sh_6 rfl ?_
        refine am_iload_n d110_24 rfl ?_
        refine am_ialdN i d110_25 sh_8 (by omega) (by decide) ?_
        refine am_iload_n d110_26 rfl ?_
        refine am_icle 37 d110_27 (by decide) (fun h27 => ?_) (fun h27 => ?_)
        · refine am_incN i d110_37 rfl rfl ?_
          refine am_goto 2 d110_40 (by decide) ?_
          exact ih h7 M1 ⟨I.1, fun j hj => by
          by_cases hji : j = i
          · subst hji; rw [I.2 j hj, if_neg (Nat.lt_irrefl _), if_pos (by omega), if_neg (by rw [Bool.and_eq_true, decide_eq_true_eq, decide_eq_true_eq, ← e8]; exact fun z => Int32.not_lt.mpr h27 z.2)]
          · rw [I.2 j hj]
            by_cases hlt : j < i
            · rw [if_pos hlt, if_pos (show j < i + 1 by omega)]
            · rw [if_neg hlt, if_neg (show ¬ j < i + 1 by omega)]⟩
        · refine am_aload_n d110_30 rfl ?_
          refine am_getr d110_31 fl110_27 sh_6 rfl ?_
          refine am_iload_n d110_34 rfl ?_
          refine am_iconst 1 d110_35 (by decide) ?_
          refine am_zastN i 1 d110_36 sh_12 (by omega) (by decide) (by decide) ?_
          refine am_incN i d110_37 rfl rfl ?_
          refine am_goto 2 d110_40 (by decide) ?_
          exact ih h7 _ ⟨I.1.set (by decide), fun j hj => by
          rw [am_set_self]; unfold upd
          by_cases hji : j = i
          · subst hji; rw [if_pos rfl, if_pos (by omega), if_pos (by rw [Bool.and_eq_true, decide_eq_true_eq, decide_eq_true_eq, ← e7, ← e8]; exact ⟨h17, Int32.not_le.mp h27⟩)]
          · rw [if_neg hji, I.2 j hj]
            by_cases hlt : j < i
            · rw [if_pos hlt, if_pos (show j < i + 1 by omega)]
            · rw [if_neg hlt, if_neg (show ¬ j < i + 1 by omega)]⟩
  show am_W kW_markOwnAfter 0 _ [] M Q
  refine am_iconst (nI 0) d110_0 (by decide) ?_
  refine am_istore_n d110_1 (Nat.le_of_ble_eq_true rfl) rfl ?_
  exact loop 0 (Nat.zero_le _) M ⟨fr.rf, fun j hj => by rw [if_neg (by omega)]⟩
theorem c_momentOfMarked {nw : Nat} {x k : Int32} {M : am_M} {Q : am_T} (h120 : nw ≤ 120) (hn : M.1 6 6 = nI nw) (hQ : Q (.inl (some (.int (sp_kth (fun i => !decide (M.1 12 i = 0) && decide (M.1 9 i = x)) (M.1 8) k nw nw 0)))) M) : am_W kW_momentOfMarked 0 (am_in kW_momentOfMarked [.ref 6, .int x, .int k]) [] M Q := by
  have loop : ∀ i, i ≤ nw → ∀ s, Q (.inl (some (.int (sp_kth (fun i => !decide (M.1 12 i = 0) && decide (M.1 9 i = x)) (M.1 8) k nw (nw - i) s)))) M → am_W kW_momentOfMarked 5 [.ref 6, .int x, .int k, .int (nI s), .int (nI i)] [] M Q := by
    refine am_loop nw (fun i hi ih => ?_)
    intro s hq
    refine am_iload d111_5 rfl ?_
    refine am_aload_n d111_7 rfl ?_
    refine am_geti d111_8 fl111_31 sh_6 rfl ?_
    refine am_icgeN 57 i nw d111_11 (by decide) rfl hn (by omega) (by omega) (fun h11 => ?_) (fun h11 => ?_)
    · refine am_iconst (-1) d111_57 (by decide) ?_
      refine am_iret d111_58 rfl rfl ?_
      obtain rfl : i = nw := by omega
      rw [Nat.sub_self] at hq
      exact hq
    · refine am_aload_n d111_14 rfl ?_
      refine am_getr d111_15 fl111_27 sh_6 rfl ?_
      refine am_iload d111_18 rfl ?_
      refine am_zaldN i d111_20 sh_12 (by omega) (by decide) ?_
      refine am_ifeq 51 d111_21 (by decide) (fun h21 => ?_) (fun h21 => ?_)
      · refine am_incN i d111_51 rfl rfl ?_
        refine am_goto 5 d111_54 (by decide) ?_
        exact ih h11 s (by rw [sp_kth_f h11 (by simp [h21])] at hq; exact hq)
      · refine am_aload_n d111_24 rfl ?_
        refine am_getr d111_25 fl111_18 sh_6 rfl ?_
        refine am_iload d111_28 rfl ?_
        refine am_ialdN i d111_30 sh_9 (by omega) (by decide) ?_
        refine am_iload_n d111_31 rfl ?_
        refine am_icne 51 d111_32 (by decide) (fun h32 => ?_) (fun h32 => ?_)
        · refine am_incN i d111_51 rfl rfl ?_
          refine am_goto 5 d111_54 (by decide) ?_
          exact ih h11 s (by rw [sp_kth_f h11 (by simp [h32])] at hq; exact hq)
        · refine am_iload_n d111_35 rfl ?_
          refine am_iload_n d111_36 rfl ?_
          refine am_icne 48 d111_37 (by decide) (fun h37 => ?_) (fun h37 => ?_)
          · refine am_incN s d111_48 rfl rfl ?_
            refine am_incN i d111_51 rfl rfl ?_
            refine am_goto 5 d111_54 (by decide) ?_
            exact ih h11 (s + 1) (by rw [sp_kth_n h11 (by simp [h21, h32]) h37] at hq; exact hq)
          · refine am_aload_n d111_40 rfl ?_
            refine am_getr d111_41 fl111_15 sh_6 rfl ?_
            refine am_iload d111_44 rfl ?_
            refine am_ialdN i d111_46 sh_8 (by omega) (by decide) ?_
            refine am_iret d111_47 rfl rfl ?_
            rw [sp_kth_t h11 (by simp [h21, h32]) h37] at hq
            exact hq
  show am_W kW_momentOfMarked 0 _ [] M Q
  refine am_iconst (nI 0) d111_0 (by decide) ?_
  refine am_istore_n d111_1 (Nat.le_of_ble_eq_true rfl) rfl ?_
  refine am_iconst (nI 0) d111_2 (by decide) ?_
  refine am_istore d111_3 (Nat.le_of_ble_eq_true rfl) rfl ?_
  exact loop 0 (Nat.zero_le _) 0 hQ
